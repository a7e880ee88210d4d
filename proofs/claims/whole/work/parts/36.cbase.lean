/-! THE CLASS: the JDK's methods and its own small ones -/
section CB
variable {d L : Nat} {xs : Nat → Int32} {s : Nat → Int → Int32} {O : Nat → Int64} {c : Bool × Nat × Nat}
theorem jj_max {x y : Int} : EV (d) 355 0 [.int (q_I (x)), .int (q_I (y))] [] (q_h L xs s O c) = some (.inl (some (.int (q_I (if q_sg x < q_sg y then y else x)))), q_h L xs (s) O c) := by
  simp (disch := first | omega | exact q_b_01 _) only [↓reduceIte, q_bk0, q_bk1, q_bk2, q_sg_b, q_b_0, q_b_n0, q_b_1, q_b_n1, q_b_T, q_b_F, q_sg_g, q_sg_sg, q_sg_xs, q_sg_id, q_gu_ne, q_gu_eq, q_g_fne, q_g_cpe, q_w_f, q_v_f, q_u_f, q_fn_f, q_cp_f, q_sg_pg, q_sg_hc, q_lt_t, q_lt_f, q_le_t, q_le_f, q_eq_t, q_eq_f, ne_eq, eq_self, Bool.false_eq_true, Bool.true_eq_false, not_true_eq_false, not_false_eq_true, true_and, and_true, false_and, and_false, true_or, or_true, false_or, or_false, if_true, if_false, Int.reduceAdd, Int.reduceMul, Int.reduceSub, Int.reduceNeg, R_355_0, R_355_5, R_355_9, R_355_10]
  repeat' split
  all_goals first | rfl | omega
theorem jj_min {x y : Int} : EV (d) 356 0 [.int (q_I (x)), .int (q_I (y))] [] (q_h L xs s O c) = some (.inl (some (.int (q_I (if q_sg y < q_sg x then y else x)))), q_h L xs (s) O c) := by
  simp (disch := first | omega | exact q_b_01 _) only [↓reduceIte, q_bk0, q_bk1, q_bk2, q_sg_b, q_b_0, q_b_n0, q_b_1, q_b_n1, q_b_T, q_b_F, q_sg_g, q_sg_sg, q_sg_xs, q_sg_id, q_gu_ne, q_gu_eq, q_g_fne, q_g_cpe, q_w_f, q_v_f, q_u_f, q_fn_f, q_cp_f, q_sg_pg, q_sg_hc, q_lt_t, q_lt_f, q_le_t, q_le_f, q_eq_t, q_eq_f, ne_eq, eq_self, Bool.false_eq_true, Bool.true_eq_false, not_true_eq_false, not_false_eq_true, true_and, and_true, false_and, and_false, true_or, or_true, false_or, or_false, if_true, if_false, Int.reduceAdd, Int.reduceMul, Int.reduceSub, Int.reduceNeg, R_356_0, R_356_5, R_356_9, R_356_10]
  repeat' split
  all_goals first | rfl | omega
theorem jj_fill {k n : Nat} {v : Int} (hk : ly_A k n .int) (hn : n < 2147483648) : EV (d) 351 0 [.ref k, .int (q_I (v)), .null, .null] [] (q_h L xs s O c) = some (.inl none, q_h L xs (q_v s k 0 n (fun _ => q_I v)) O c) := by
  simp (disch := first | omega | exact q_b_01 _) only [↓reduceIte, q_bk0, q_bk1, q_bk2, q_sg_b, q_b_0, q_b_n0, q_b_1, q_b_n1, q_b_T, q_b_F, q_sg_g, q_sg_sg, q_sg_xs, q_sg_id, q_gu_ne, q_gu_eq, q_g_fne, q_g_cpe, q_w_f, q_v_f, q_u_f, q_fn_f, q_cp_f, q_sg_pg, q_sg_hc, q_lt_t, q_lt_f, q_le_t, q_le_f, q_eq_t, q_eq_f, ne_eq, eq_self, Bool.false_eq_true, Bool.true_eq_false, not_true_eq_false, not_false_eq_true, true_and, and_true, false_and, and_false, true_or, or_true, false_or, or_false, if_true, if_false, Int.reduceAdd, Int.reduceMul, Int.reduceSub, Int.reduceNeg, R_351_0, R_351_4, R_351_10, R_351_14, R_351_20, q_ln hk]
  refine (q_v_fl (fun j s => EV (d) 351 5 [.ref k, .int (q_I (v)), .int (q_I (j)), .int (q_I ((n : Int)))] [] (q_h L xs s O c)) s k (fun _ => v) (lo := 0) (n := n) (by omega) (fun j W h1 h2 => ?_)).trans ?_
  · refine ⟨v, ?_, rfl⟩
    rw [R_351_5]
    simp (disch := first | omega | exact q_b_01 _) only [↓reduceIte, q_bk0, q_bk1, q_bk2, q_sg_b, q_b_0, q_b_n0, q_b_1, q_b_n1, q_b_T, q_b_F, q_sg_g, q_sg_sg, q_sg_xs, q_sg_id, q_gu_ne, q_gu_eq, q_g_fne, q_g_cpe, q_w_f, q_v_f, q_u_f, q_fn_f, q_cp_f, q_sg_pg, q_sg_hc, q_lt_t, q_lt_f, q_le_t, q_le_f, q_eq_t, q_eq_f, ne_eq, eq_self, Bool.false_eq_true, Bool.true_eq_false, not_true_eq_false, not_false_eq_true, true_and, and_true, false_and, and_false, true_or, or_true, false_or, or_false, if_true, if_false, Int.reduceAdd, Int.reduceMul, Int.reduceSub, Int.reduceNeg, Int.zero_add, R_351_0, R_351_4, R_351_10, R_351_14, R_351_20, q_st hk h1 h2 hn]
  · rw [R_351_5]
    simp (disch := first | omega | exact q_b_01 _) only [↓reduceIte, q_bk0, q_bk1, q_bk2, q_sg_b, q_b_0, q_b_n0, q_b_1, q_b_n1, q_b_T, q_b_F, q_sg_g, q_sg_sg, q_sg_xs, q_sg_id, q_gu_ne, q_gu_eq, q_g_fne, q_g_cpe, q_w_f, q_v_f, q_u_f, q_fn_f, q_cp_f, q_sg_pg, q_sg_hc, q_lt_t, q_lt_f, q_le_t, q_le_f, q_eq_t, q_eq_f, ne_eq, eq_self, Bool.false_eq_true, Bool.true_eq_false, not_true_eq_false, not_false_eq_true, true_and, and_true, false_and, and_false, true_or, or_true, false_or, or_false, if_true, if_false, Int.reduceAdd, Int.reduceMul, Int.reduceSub, Int.reduceNeg, R_351_0, R_351_4, R_351_10, R_351_14, R_351_20]
theorem jj_fill2 {k n : Nat} {a b v : Int} (hk : ly_A k n .int) (hn : n < 2147483648) (h0 : 0 ≤ a) (h1 : a ≤ b) (h2 : b ≤ n) : EV (d + 1) 352 0 [.ref k, .int (q_I (a)), .int (q_I (b)), .int (q_I (v)), .null] [] (q_h L xs s O c) = some (.inl none, q_h L xs (q_fn s k a b (fun _ => v)) O c) := by
  simp (disch := first | omega | exact q_b_01 _) only [↓reduceIte, q_bk0, q_bk1, q_bk2, q_sg_b, q_b_0, q_b_n0, q_b_1, q_b_n1, q_b_T, q_b_F, q_sg_g, q_sg_sg, q_sg_xs, q_sg_id, q_gu_ne, q_gu_eq, q_g_fne, q_g_cpe, q_w_f, q_v_f, q_u_f, q_fn_f, q_cp_f, q_sg_pg, q_sg_hc, q_lt_t, q_lt_f, q_le_t, q_le_f, q_eq_t, q_eq_f, ne_eq, eq_self, Bool.false_eq_true, Bool.true_eq_false, not_true_eq_false, not_false_eq_true, true_and, and_true, false_and, and_false, true_or, or_true, false_or, or_false, if_true, if_false, Int.reduceAdd, Int.reduceMul, Int.reduceSub, Int.reduceNeg, R_352_0, R_352_2, R_352_7, R_352_16, R_352_21, R_352_27, C_352_4, R_353_0, R_353_46, R_353_59, R_353_73, q_ln hk]
  refine (q_fl (fun j s => EV (d + 1) 352 10 [.ref k, .int (q_I (a)), .int (q_I (b)), .int (q_I (v)), .int (q_I (j))] [] (q_h L xs s O c)) s k (fun _ => v) (lo := a) (hi := b) h1 (fun j g1 g2 => ?_)).trans ?_
  · refine ⟨v, ?_, rfl⟩
    rw [R_352_10]
    simp (disch := first | omega | exact q_b_01 _) only [↓reduceIte, q_bk0, q_bk1, q_bk2, q_sg_b, q_b_0, q_b_n0, q_b_1, q_b_n1, q_b_T, q_b_F, q_sg_g, q_sg_sg, q_sg_xs, q_sg_id, q_gu_ne, q_gu_eq, q_g_fne, q_g_cpe, q_w_f, q_v_f, q_u_f, q_fn_f, q_cp_f, q_sg_pg, q_sg_hc, q_lt_t, q_lt_f, q_le_t, q_le_f, q_eq_t, q_eq_f, ne_eq, eq_self, Bool.false_eq_true, Bool.true_eq_false, not_true_eq_false, not_false_eq_true, true_and, and_true, false_and, and_false, true_or, or_true, false_or, or_false, if_true, if_false, Int.reduceAdd, Int.reduceMul, Int.reduceSub, Int.reduceNeg, R_352_0, R_352_2, R_352_7, R_352_16, R_352_21, R_352_27, C_352_4, q_st hk (show 0 ≤ j by omega) (show j < n by omega) hn]
  · rw [R_352_10]
    simp (disch := first | omega | exact q_b_01 _) only [↓reduceIte, q_bk0, q_bk1, q_bk2, q_sg_b, q_b_0, q_b_n0, q_b_1, q_b_n1, q_b_T, q_b_F, q_sg_g, q_sg_sg, q_sg_xs, q_sg_id, q_gu_ne, q_gu_eq, q_g_fne, q_g_cpe, q_w_f, q_v_f, q_u_f, q_fn_f, q_cp_f, q_sg_pg, q_sg_hc, q_lt_t, q_lt_f, q_le_t, q_le_f, q_eq_t, q_eq_f, ne_eq, eq_self, Bool.false_eq_true, Bool.true_eq_false, not_true_eq_false, not_false_eq_true, true_and, and_true, false_and, and_false, true_or, or_true, false_or, or_false, if_true, if_false, Int.reduceAdd, Int.reduceMul, Int.reduceSub, Int.reduceNeg, R_352_0, R_352_2, R_352_7, R_352_16, R_352_21, R_352_27, C_352_4]
theorem cc_isPage {p : Int} : EV (d) 181 0 [.int (q_I (p))] [] (q_h L xs s O c) = some (.inl (some (.int (q_I (q_b (0 ≤ q_sg p ∧ q_sg p < 48))))), q_h L xs (s) O c) := by
  simp (disch := first | omega | exact q_b_01 _) only [↓reduceIte, q_bk0, q_bk1, q_bk2, q_sg_b, q_b_0, q_b_n0, q_b_1, q_b_n1, q_b_T, q_b_F, q_sg_g, q_sg_sg, q_sg_xs, q_sg_id, q_gu_ne, q_gu_eq, q_g_fne, q_g_cpe, q_w_f, q_v_f, q_u_f, q_fn_f, q_cp_f, q_sg_pg, q_sg_hc, q_lt_t, q_lt_f, q_le_t, q_le_f, q_eq_t, q_eq_f, ne_eq, eq_self, Bool.false_eq_true, Bool.true_eq_false, not_true_eq_false, not_false_eq_true, true_and, and_true, false_and, and_false, true_or, or_true, false_or, or_false, if_true, if_false, Int.reduceAdd, Int.reduceMul, Int.reduceSub, Int.reduceNeg, R_181_0, R_181_4, R_181_10, R_181_14, R_181_15]
  repeat' split
  all_goals first | rfl | (rw [q_bt (by omega)]) | (rw [q_bf (by omega)]) | omega
theorem cc_isInner {p : Int} : EV (d) 182 0 [.int (q_I (p))] [] (q_h L xs s O c) = some (.inl (some (.int (q_I (q_b (2 ≤ q_sg p ∧ q_sg p < 48))))), q_h L xs (s) O c) := by
  simp (disch := first | omega | exact q_b_01 _) only [↓reduceIte, q_bk0, q_bk1, q_bk2, q_sg_b, q_b_0, q_b_n0, q_b_1, q_b_n1, q_b_T, q_b_F, q_sg_g, q_sg_sg, q_sg_xs, q_sg_id, q_gu_ne, q_gu_eq, q_g_fne, q_g_cpe, q_w_f, q_v_f, q_u_f, q_fn_f, q_cp_f, q_sg_pg, q_sg_hc, q_lt_t, q_lt_f, q_le_t, q_le_f, q_eq_t, q_eq_f, ne_eq, eq_self, Bool.false_eq_true, Bool.true_eq_false, not_true_eq_false, not_false_eq_true, true_and, and_true, false_and, and_false, true_or, or_true, false_or, or_false, if_true, if_false, Int.reduceAdd, Int.reduceMul, Int.reduceSub, Int.reduceNeg, R_182_0, R_182_5, R_182_11, R_182_15, R_182_16]
  repeat' split
  all_goals first | rfl | (rw [q_bt (by omega)]) | (rw [q_bf (by omega)]) | omega
theorem cc_isReader {p : Int} : EV (d) 183 0 [.int (q_I (p))] [] (q_h L xs s O c) = some (.inl (some (.int (q_I (q_b (0 ≤ q_sg p ∧ q_sg p < 4))))), q_h L xs (s) O c) := by
  simp (disch := first | omega | exact q_b_01 _) only [↓reduceIte, q_bk0, q_bk1, q_bk2, q_sg_b, q_b_0, q_b_n0, q_b_1, q_b_n1, q_b_T, q_b_F, q_sg_g, q_sg_sg, q_sg_xs, q_sg_id, q_gu_ne, q_gu_eq, q_g_fne, q_g_cpe, q_w_f, q_v_f, q_u_f, q_fn_f, q_cp_f, q_sg_pg, q_sg_hc, q_lt_t, q_lt_f, q_le_t, q_le_f, q_eq_t, q_eq_f, ne_eq, eq_self, Bool.false_eq_true, Bool.true_eq_false, not_true_eq_false, not_false_eq_true, true_and, and_true, false_and, and_false, true_or, or_true, false_or, or_false, if_true, if_false, Int.reduceAdd, Int.reduceMul, Int.reduceSub, Int.reduceNeg, R_183_0, R_183_4, R_183_9, R_183_13, R_183_14]
  repeat' split
  all_goals first | rfl | (rw [q_bt (by omega)]) | (rw [q_bf (by omega)]) | omega
theorem cc_isView {p : Int} : EV (d) 184 0 [.int (q_I (p))] [] (q_h L xs s O c) = some (.inl (some (.int (q_I (q_b (0 ≤ q_sg p ∧ q_sg p < 5))))), q_h L xs (s) O c) := by
  simp (disch := first | omega | exact q_b_01 _) only [↓reduceIte, q_bk0, q_bk1, q_bk2, q_sg_b, q_b_0, q_b_n0, q_b_1, q_b_n1, q_b_T, q_b_F, q_sg_g, q_sg_sg, q_sg_xs, q_sg_id, q_gu_ne, q_gu_eq, q_g_fne, q_g_cpe, q_w_f, q_v_f, q_u_f, q_fn_f, q_cp_f, q_sg_pg, q_sg_hc, q_lt_t, q_lt_f, q_le_t, q_le_f, q_eq_t, q_eq_f, ne_eq, eq_self, Bool.false_eq_true, Bool.true_eq_false, not_true_eq_false, not_false_eq_true, true_and, and_true, false_and, and_false, true_or, or_true, false_or, or_false, if_true, if_false, Int.reduceAdd, Int.reduceMul, Int.reduceSub, Int.reduceNeg, R_184_0, R_184_4, R_184_9, R_184_13, R_184_14]
  repeat' split
  all_goals first | rfl | (rw [q_bt (by omega)]) | (rw [q_bf (by omega)]) | omega
theorem cc_isKey {p : Int} : EV (d) 185 0 [.int (q_I (p))] [] (q_h L xs s O c) = some (.inl (some (.int (q_I (q_b (0 ≤ q_sg p ∧ q_sg p < 100))))), q_h L xs (s) O c) := by
  simp (disch := first | omega | exact q_b_01 _) only [↓reduceIte, q_bk0, q_bk1, q_bk2, q_sg_b, q_b_0, q_b_n0, q_b_1, q_b_n1, q_b_T, q_b_F, q_sg_g, q_sg_sg, q_sg_xs, q_sg_id, q_gu_ne, q_gu_eq, q_g_fne, q_g_cpe, q_w_f, q_v_f, q_u_f, q_fn_f, q_cp_f, q_sg_pg, q_sg_hc, q_lt_t, q_lt_f, q_le_t, q_le_f, q_eq_t, q_eq_f, ne_eq, eq_self, Bool.false_eq_true, Bool.true_eq_false, not_true_eq_false, not_false_eq_true, true_and, and_true, false_and, and_false, true_or, or_true, false_or, or_false, if_true, if_false, Int.reduceAdd, Int.reduceMul, Int.reduceSub, Int.reduceNeg, R_185_0, R_185_4, R_185_10, R_185_14, R_185_15]
  repeat' split
  all_goals first | rfl | (rw [q_bt (by omega)]) | (rw [q_bf (by omega)]) | omega
theorem cc_hasBit {x k : Int} : EV (d) 186 0 [.int (q_I (x)), .int (q_I (k))] [] (q_h L xs s O c) = some (.inl (some (.int (q_I (q_b (q_sg (q_and (q_shr x k) 1) = 1))))), q_h L xs (s) O c) := by
  simp (disch := first | omega | exact q_b_01 _) only [↓reduceIte, q_bk0, q_bk1, q_bk2, q_sg_b, q_b_0, q_b_n0, q_b_1, q_b_n1, q_b_T, q_b_F, q_sg_g, q_sg_sg, q_sg_xs, q_sg_id, q_gu_ne, q_gu_eq, q_g_fne, q_g_cpe, q_w_f, q_v_f, q_u_f, q_fn_f, q_cp_f, q_sg_pg, q_sg_hc, q_lt_t, q_lt_f, q_le_t, q_le_f, q_eq_t, q_eq_f, ne_eq, eq_self, Bool.false_eq_true, Bool.true_eq_false, not_true_eq_false, not_false_eq_true, true_and, and_true, false_and, and_false, true_or, or_true, false_or, or_false, if_true, if_false, Int.reduceAdd, Int.reduceMul, Int.reduceSub, Int.reduceNeg, R_186_0, R_186_9, R_186_13, R_186_14]
  repeat' split
  all_goals first | rfl | (rw [q_bt (by omega)]) | (rw [q_bf (by omega)]) | omega
/-- the head by the class's rows of kinds and of heads -/
def chd (K H : Int → Int) : Int := if K 0 = 5 then 1 else if K 1 = 5 then 0 else if H 0 < H 4 then 1 else 0
def chc (K H : Int → Int) (w : Int) : Int := H (chd K H * 4 + w)
theorem chd_01 (K H : Int → Int) : 0 ≤ chd K H ∧ chd K H ≤ 1 := by
  unfold chd
  repeat' split
  all_goals omega
theorem cc_theHead : EV (d) 35 0 [.ref 8] [] (q_h L xs s O c) = some (.inl (some (.int (q_I (chd (q_g s 9) (q_g s 15))))), q_h L xs (s) O c) := by
  simp (disch := first | omega | exact q_b_01 _) only [↓reduceIte, q_bk0, q_bk1, q_bk2, q_sg_b, q_b_0, q_b_n0, q_b_1, q_b_n1, q_b_T, q_b_F, q_sg_g, q_sg_sg, q_sg_xs, q_sg_id, q_gu_ne, q_gu_eq, q_g_fne, q_g_cpe, q_w_f, q_v_f, q_u_f, q_fn_f, q_cp_f, q_sg_pg, q_sg_hc, q_lt_t, q_lt_f, q_le_t, q_le_f, q_eq_t, q_eq_f, ne_eq, eq_self, Bool.false_eq_true, Bool.true_eq_false, not_true_eq_false, not_false_eq_true, true_and, and_true, false_and, and_false, true_or, or_true, false_or, or_false, if_true, if_false, Int.reduceAdd, Int.reduceMul, Int.reduceSub, Int.reduceNeg, R_35_0, R_35_6, R_35_10, R_35_12, R_35_18, R_35_22, R_35_24, R_35_30, R_35_36, R_35_39, R_35_43, R_35_44]
  unfold chd
  repeat' split
  all_goals first | rfl | omega
theorem cc_headCell {h w : Int} (h1 : 0 ≤ h) (h2 : h < 2) (h3 : 0 ≤ w) (h4 : w < 4) : EV (d) 36 0 [.ref 8, .int (q_I (h)), .int (q_I (w)), .null] [] (q_h L xs s O c) = some (.inl (some (.int (q_I (q_g s 15 (h * 4 + w))))), q_h L xs (s) O c) := by
  simp (disch := first | omega | exact q_b_01 _) only [↓reduceIte, q_bk0, q_bk1, q_bk2, q_sg_b, q_b_0, q_b_n0, q_b_1, q_b_n1, q_b_T, q_b_F, q_sg_g, q_sg_sg, q_sg_xs, q_sg_id, q_gu_ne, q_gu_eq, q_g_fne, q_g_cpe, q_w_f, q_v_f, q_u_f, q_fn_f, q_cp_f, q_sg_pg, q_sg_hc, q_lt_t, q_lt_f, q_le_t, q_le_f, q_eq_t, q_eq_f, ne_eq, eq_self, Bool.false_eq_true, Bool.true_eq_false, not_true_eq_false, not_false_eq_true, true_and, and_true, false_and, and_false, true_or, or_true, false_or, or_false, if_true, if_false, Int.reduceAdd, Int.reduceMul, Int.reduceSub, Int.reduceNeg, R_36_0, R_36_10, R_36_16, R_36_20, R_36_26]
theorem cc_ofTheHead {w : Int} (h3 : 0 ≤ w) (h4 : w < 4) : EV (d + 1) 37 0 [.ref 8, .int (q_I (w))] [] (q_h L xs s O c) = some (.inl (some (.int (q_I (chc (q_g s 9) (q_g s 15) w)))), q_h L xs (s) O c) := by
  have := chd_01 (q_g s 9) (q_g s 15)
  simp (disch := first | omega | exact q_b_01 _) only [↓reduceIte, q_bk0, q_bk1, q_bk2, q_sg_b, q_b_0, q_b_n0, q_b_1, q_b_n1, q_b_T, q_b_F, q_sg_g, q_sg_sg, q_sg_xs, q_sg_id, q_gu_ne, q_gu_eq, q_g_fne, q_g_cpe, q_w_f, q_v_f, q_u_f, q_fn_f, q_cp_f, q_sg_pg, q_sg_hc, q_lt_t, q_lt_f, q_le_t, q_le_f, q_eq_t, q_eq_f, ne_eq, eq_self, Bool.false_eq_true, Bool.true_eq_false, not_true_eq_false, not_false_eq_true, true_and, and_true, false_and, and_false, true_or, or_true, false_or, or_false, if_true, if_false, Int.reduceAdd, Int.reduceMul, Int.reduceSub, Int.reduceNeg, R_37_0, R_37_5, R_37_9, C_37_2, C_37_6, cc_theHead, cc_headCell]
  rfl
theorem cc_rootOf {v : Int} (h1 : 0 ≤ v) (h2 : v < 5) : EV (d + 2) 188 0 [.ref 1, .int (q_I (v))] [] (q_h L xs s O c) = some (.inl (some (.int (q_I (if v = 4 then chc (q_g s 9) (q_g s 15) 1 else q_g s 17 v)))), q_h L xs (s) O c) := by
  by_cases h : v = 4
  · simp (disch := first | omega | exact q_b_01 _) only [↓reduceIte, q_bk0, q_bk1, q_bk2, q_sg_b, q_b_0, q_b_n0, q_b_1, q_b_n1, q_b_T, q_b_F, q_sg_g, q_sg_sg, q_sg_xs, q_sg_id, q_gu_ne, q_gu_eq, q_g_fne, q_g_cpe, q_w_f, q_v_f, q_u_f, q_fn_f, q_cp_f, q_sg_pg, q_sg_hc, q_lt_t, q_lt_f, q_le_t, q_le_f, q_eq_t, q_eq_f, ne_eq, eq_self, Bool.false_eq_true, Bool.true_eq_false, not_true_eq_false, not_false_eq_true, true_and, and_true, false_and, and_false, true_or, or_true, false_or, or_false, if_true, if_false, Int.reduceAdd, Int.reduceMul, Int.reduceSub, Int.reduceNeg, R_188_0, R_188_5, R_188_16, R_188_17, R_188_21, R_188_24, R_188_33, R_188_36, R_188_37, C_188_13, C_188_18, cc_ofTheHead]
  · simp (disch := first | omega | exact q_b_01 _) only [↓reduceIte, q_bk0, q_bk1, q_bk2, q_sg_b, q_b_0, q_b_n0, q_b_1, q_b_n1, q_b_T, q_b_F, q_sg_g, q_sg_sg, q_sg_xs, q_sg_id, q_gu_ne, q_gu_eq, q_g_fne, q_g_cpe, q_w_f, q_v_f, q_u_f, q_fn_f, q_cp_f, q_sg_pg, q_sg_hc, q_lt_t, q_lt_f, q_le_t, q_le_f, q_eq_t, q_eq_f, ne_eq, eq_self, Bool.false_eq_true, Bool.true_eq_false, not_true_eq_false, not_false_eq_true, true_and, and_true, false_and, and_false, true_or, or_true, false_or, or_false, if_true, if_false, Int.reduceAdd, Int.reduceMul, Int.reduceSub, Int.reduceNeg, R_188_0, R_188_5, R_188_16, R_188_17, R_188_21, R_188_24, R_188_33, R_188_36, R_188_37, C_188_13, C_188_18, cc_isReader]
theorem cc_isOpenView {v : Int} : EV (d + 1) 187 0 [.ref 1, .int (q_I (v))] [] (q_h L xs s O c) = some (.inl (some (.int (q_I (q_b (q_sg v = 4 ∨ 0 ≤ q_sg v ∧ q_sg v < 4 ∧ q_g s 16 (q_sg v) ≠ -1))))), q_h L xs (s) O c) := by
  have := q_sg_rg v
  rw [show q_I v = q_I (q_sg v) from (q_I_sg v).symm]
  generalize q_sg v = v at *
  by_cases h : v = 4
  · simp (disch := first | omega | exact q_b_01 _) only [↓reduceIte, q_bk0, q_bk1, q_bk2, q_sg_b, q_b_0, q_b_n0, q_b_1, q_b_n1, q_b_T, q_b_F, q_sg_g, q_sg_sg, q_sg_xs, q_sg_id, q_gu_ne, q_gu_eq, q_g_fne, q_g_cpe, q_w_f, q_v_f, q_u_f, q_fn_f, q_cp_f, q_sg_pg, q_sg_hc, q_lt_t, q_lt_f, q_le_t, q_le_f, q_eq_t, q_eq_f, ne_eq, eq_self, Bool.false_eq_true, Bool.true_eq_false, not_true_eq_false, not_false_eq_true, true_and, and_true, false_and, and_false, true_or, or_true, false_or, or_false, if_true, if_false, Int.reduceAdd, Int.reduceMul, Int.reduceSub, Int.reduceNeg, R_187_0, R_187_5, R_187_9, R_187_12, R_187_21, R_187_25, R_187_29, R_187_30, C_187_6]
  · by_cases h3 : 0 ≤ v ∧ v < 4
    · simp (disch := first | omega | exact q_b_01 _) only [↓reduceIte, q_bk0, q_bk1, q_bk2, q_sg_b, q_b_0, q_b_n0, q_b_1, q_b_n1, q_b_T, q_b_F, q_sg_g, q_sg_sg, q_sg_xs, q_sg_id, q_gu_ne, q_gu_eq, q_g_fne, q_g_cpe, q_w_f, q_v_f, q_u_f, q_fn_f, q_cp_f, q_sg_pg, q_sg_hc, q_lt_t, q_lt_f, q_le_t, q_le_f, q_eq_t, q_eq_f, ne_eq, eq_self, Bool.false_eq_true, Bool.true_eq_false, not_true_eq_false, not_false_eq_true, true_and, and_true, false_and, and_false, true_or, or_true, false_or, or_false, if_true, if_false, Int.reduceAdd, Int.reduceMul, Int.reduceSub, Int.reduceNeg, R_187_0, R_187_5, R_187_9, R_187_12, R_187_21, R_187_25, R_187_29, R_187_30, C_187_6, cc_isReader]
      repeat' split
      all_goals first | rfl | (rw [q_bt (by omega)]) | (rw [q_bf (by omega)]) | omega
    · by_cases h4 : 0 ≤ v
      · simp (disch := first | omega | exact q_b_01 _) only [↓reduceIte, q_bk0, q_bk1, q_bk2, q_sg_b, q_b_0, q_b_n0, q_b_1, q_b_n1, q_b_T, q_b_F, q_sg_g, q_sg_sg, q_sg_xs, q_sg_id, q_gu_ne, q_gu_eq, q_g_fne, q_g_cpe, q_w_f, q_v_f, q_u_f, q_fn_f, q_cp_f, q_sg_pg, q_sg_hc, q_lt_t, q_lt_f, q_le_t, q_le_f, q_eq_t, q_eq_f, ne_eq, eq_self, Bool.false_eq_true, Bool.true_eq_false, not_true_eq_false, not_false_eq_true, true_and, and_true, false_and, and_false, true_or, or_true, false_or, or_false, if_true, if_false, Int.reduceAdd, Int.reduceMul, Int.reduceSub, Int.reduceNeg, R_187_0, R_187_5, R_187_9, R_187_12, R_187_21, R_187_25, R_187_29, R_187_30, C_187_6, cc_isReader]
      · simp (disch := first | omega | exact q_b_01 _) only [↓reduceIte, q_bk0, q_bk1, q_bk2, q_sg_b, q_b_0, q_b_n0, q_b_1, q_b_n1, q_b_T, q_b_F, q_sg_g, q_sg_sg, q_sg_xs, q_sg_id, q_gu_ne, q_gu_eq, q_g_fne, q_g_cpe, q_w_f, q_v_f, q_u_f, q_fn_f, q_cp_f, q_sg_pg, q_sg_hc, q_lt_t, q_lt_f, q_le_t, q_le_f, q_eq_t, q_eq_f, ne_eq, eq_self, Bool.false_eq_true, Bool.true_eq_false, not_true_eq_false, not_false_eq_true, true_and, and_true, false_and, and_false, true_or, or_true, false_or, or_false, if_true, if_false, Int.reduceAdd, Int.reduceMul, Int.reduceSub, Int.reduceNeg, R_187_0, R_187_5, R_187_9, R_187_12, R_187_21, R_187_25, R_187_29, R_187_30, C_187_6, cc_isReader]
theorem cc_openReaders : EV (d) 105 0 [.ref 7, .null, .null] [] (q_h L xs s O c) = some (.inl (some (.int (q_I (q_S (fun r => q_b (q_g s 16 r ≠ -1)) 0 4)))), q_h L xs (s) O c) := by
  simp (disch := first | omega | exact q_b_01 _) only [↓reduceIte, q_bk0, q_bk1, q_bk2, q_sg_b, q_b_0, q_b_n0, q_b_1, q_b_n1, q_b_T, q_b_F, q_sg_g, q_sg_sg, q_sg_xs, q_sg_id, q_gu_ne, q_gu_eq, q_g_fne, q_g_cpe, q_w_f, q_v_f, q_u_f, q_fn_f, q_cp_f, q_sg_pg, q_sg_hc, q_lt_t, q_lt_f, q_le_t, q_le_f, q_eq_t, q_eq_f, ne_eq, eq_self, Bool.false_eq_true, Bool.true_eq_false, not_true_eq_false, not_false_eq_true, true_and, and_true, false_and, and_false, true_or, or_true, false_or, or_false, if_true, if_false, Int.reduceAdd, Int.reduceMul, Int.reduceSub, Int.reduceNeg, R_105_0, R_105_9, R_105_15, R_105_19, R_105_22, R_105_28]
  refine (q_sm (fun j x => EV (d) 105 4 [.ref 7, .int (q_I (x)), .int (q_I (j))] [] (q_h L xs s O c)) (fun r => q_b (q_g s 16 r ≠ -1)) (lo := 0) (hi := 4) (by omega) (fun j x h1 h2 => ?_)).trans ?_
  · rw [R_105_4]
    by_cases h : q_g s 16 j = -1
    · simp (disch := first | omega | exact q_b_01 _) only [↓reduceIte, q_bk0, q_bk1, q_bk2, q_sg_b, q_b_0, q_b_n0, q_b_1, q_b_n1, q_b_T, q_b_F, q_sg_g, q_sg_sg, q_sg_xs, q_sg_id, q_gu_ne, q_gu_eq, q_g_fne, q_g_cpe, q_w_f, q_v_f, q_u_f, q_fn_f, q_cp_f, q_sg_pg, q_sg_hc, q_lt_t, q_lt_f, q_le_t, q_le_f, q_eq_t, q_eq_f, ne_eq, eq_self, Bool.false_eq_true, Bool.true_eq_false, not_true_eq_false, not_false_eq_true, true_and, and_true, false_and, and_false, true_or, or_true, false_or, or_false, if_true, if_false, Int.reduceAdd, Int.reduceMul, Int.reduceSub, Int.reduceNeg, Int.add_zero, R_105_0, R_105_9, R_105_15, R_105_19, R_105_22, R_105_28, h]
    · simp (disch := first | omega | exact q_b_01 _) only [↓reduceIte, q_bk0, q_bk1, q_bk2, q_sg_b, q_b_0, q_b_n0, q_b_1, q_b_n1, q_b_T, q_b_F, q_sg_g, q_sg_sg, q_sg_xs, q_sg_id, q_gu_ne, q_gu_eq, q_g_fne, q_g_cpe, q_w_f, q_v_f, q_u_f, q_fn_f, q_cp_f, q_sg_pg, q_sg_hc, q_lt_t, q_lt_f, q_le_t, q_le_f, q_eq_t, q_eq_f, ne_eq, eq_self, Bool.false_eq_true, Bool.true_eq_false, not_true_eq_false, not_false_eq_true, true_and, and_true, false_and, and_false, true_or, or_true, false_or, or_false, if_true, if_false, Int.reduceAdd, Int.reduceMul, Int.reduceSub, Int.reduceNeg, R_105_0, R_105_9, R_105_15, R_105_19, R_105_22, R_105_28, h]
  · rw [R_105_4]
    simp (disch := first | omega | exact q_b_01 _) only [↓reduceIte, q_bk0, q_bk1, q_bk2, q_sg_b, q_b_0, q_b_n0, q_b_1, q_b_n1, q_b_T, q_b_F, q_sg_g, q_sg_sg, q_sg_xs, q_sg_id, q_gu_ne, q_gu_eq, q_g_fne, q_g_cpe, q_w_f, q_v_f, q_u_f, q_fn_f, q_cp_f, q_sg_pg, q_sg_hc, q_lt_t, q_lt_f, q_le_t, q_le_f, q_eq_t, q_eq_f, ne_eq, eq_self, Bool.false_eq_true, Bool.true_eq_false, not_true_eq_false, not_false_eq_true, true_and, and_true, false_and, and_false, true_or, or_true, false_or, or_false, if_true, if_false, Int.reduceAdd, Int.reduceMul, Int.reduceSub, Int.reduceNeg, R_105_0, R_105_9, R_105_15, R_105_19, R_105_22, R_105_28]
section RBH
variable {m : Int → Int}
/-- the heads are whole or torn, and one of them is whole -/
def HdI (m : Int → Int) : Prop := (pg m 0 0 = 4 ∨ pg m 0 0 = 5) ∧ (pg m 1 0 = 4 ∨ pg m 1 0 = 5) ∧ pg m (hd m) 0 = 4
theorem chd_eq (H : RB m s 7) (Hd : HdI m) : chd (q_g s 9) (q_g s 15) = hd m := by
  obtain ⟨a, b, e⟩ := Hd
  have k0 := rb_kind H (p := 0) (by omega) (by omega)
  have k1 := rb_kind H (p := 1) (by omega) (by omega)
  unfold chd hd
  have e0 : m 281 = pg m 0 0 := rfl
  have e1 : m 297 = pg m 1 0 := rfl
  have e2 : m 285 = pg m 0 4 := rfl
  have e3 : m 301 = pg m 1 4 := rfl
  rw [k0, k1, e0, e1, e2, e3]
  rcases a with a | a
  · rcases b with b | b
    · have h0 := rb_head H (h := 0) (w := 0) (by omega) (by omega) a (by omega) (by omega)
      have h1 := rb_head H (h := 1) (w := 0) (by omega) (by omega) b (by omega) (by omega)
      rw [show (0 : Int) * 4 + 0 = 0 from rfl, show (4 : Int) + 0 = 4 from rfl] at h0
      rw [show (1 : Int) * 4 + 0 = 4 from rfl, show (4 : Int) + 0 = 4 from rfl] at h1
      rw [a, b, h0, h1]
      simp
    · rw [a, b]
      simp
  · rw [a]
    simp
theorem chc_eq (H : RB m s 7) (Hd : HdI m) {w : Int} (h0 : 0 ≤ w) (h1 : w < 4) : chc (q_g s 9) (q_g s 15) w = hc m w := by
  have := hd_01 m
  unfold chc hc
  rw [chd_eq H Hd]
  exact rb_head H (by omega) (by omega) Hd.2.2 h0 h1
theorem cve_eq (H : RB m s 7) (Hd : HdI m) {v : Int} (h0 : 0 ≤ v) (h1 : v < 5) : (if v = 4 then chc (q_g s 9) (q_g s 15) 1 else q_g s 17 v) = ve m v := by
  unfold ve vo vr
  by_cases h : v = 4
  · subst h
    rw [if_pos rfl, chc_eq H Hd (by omega) (by omega)]
    rfl
  · rw [if_neg h, if_neg h]
    by_cases ho : m (9 + 2 * v) = -1
    · rw [rb_rtn H h0 (by omega) ho, if_neg]
      simp [h, ho]
    · rw [rb_rt H h0 (by omega) ho, if_pos]
      simp [ho]
end RBH
end CB
