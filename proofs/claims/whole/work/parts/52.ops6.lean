/-! CALLS OF BOTH: rests, fault, end, seed -/
def OM (m : Int → Int) : Int := q_S (fun r => q_b (m (9 + 2 * r) ≠ -1)) 0 4
section OP6
variable {d L : Nat} {xs : Nat → Int32} {s : Nat → Int → Int32} {O : Nat → Int64} {c : Bool × Nat × Nat} {b : Int} {m : Int → Int}
theorem om_rg (m : Int → Int) : 0 ≤ OM m ∧ OM m ≤ 4 := by
  have := q_S_bd (f := fun r => q_b (m (9 + 2 * r) ≠ -1)) (lo := 0) (hi := 4) (a := 0) (b := 1) (fun i _ _ => by
    rcases q_b_01 (m (9 + 2 * i) ≠ -1) with e | e <;> rw [e] <;> omega) (by omega)
  unfold OM
  omega
theorem mm_openManyO (em : q_g s 286 = m) : EV (d + 1) 225 0 [.ref 285, .null, .null] [] (q_h L xs s O c) = some (.inl (some (.int (q_I (OM m)))), q_h L xs (s) O c) := by
  subst em
  exact mm_openMany
theorem cc_openReadersO (H : RB m s 7) : EV (d) 105 0 [.ref 7, .null, .null] [] (q_h L xs s O c) = some (.inl (some (.int (q_I (OM m)))), q_h L xs (s) O c) := by
  rw [cc_openReaders, op_many_eq H]
  rfl
theorem op_rests (B : Big b s) : Op0 (Big b) (fun h => EV (d + 40) 170 0 [.ref 1, .null, .null, .null, .null, .null] [] h) (fun h => EV (d + 40) 339 0 [.ref 285, .null, .null, .null, .null] [] h) L xs s O c := by
  have H := B.1.1
  have I := B.1.2.1
  have hn := rb_chg H
  have nr := I.2.1
  have om := om_rg (q_g s 286)
  refine ⟨if q_g s 286 8 = 0 then 1 else 0, s, q_u s 285 0 0, ?_, ?_, Big_sm B (Sm_u Sm_rfl (by unfold relz relc; omega))⟩
  · have hw : ∀ (x y : Int), EV (d + 39) 207 0 [.ref 1, .int (q_I (x)), .int (q_I (y))] [] (q_h L xs s O c) = some (.inl (some (.int (q_I (if q_sg x = 0 then (if q_sg y = 0 then -(q_g s 286 8) else 2 * q_g s 286 8) else if q_sg y = 0 then 0 else -1)))), q_h L xs (s) O c) := by
      intro x y
      by_cases hx : q_sg x = 0
      · by_cases hy : q_sg y = 0
        · simp (disch := first | omega | exact q_b_01 _) only [↓reduceIte, q_bk0, q_bk1, q_bk2, q_sg_b, q_b_0, q_b_n0, q_b_1, q_b_n1, q_b_T, q_b_F, q_sg_g, q_sg_sg, q_sg_xs, q_sg_id, q_gu_ne, q_gu_eq, q_g_fne, q_g_cpe, q_w_f, q_v_f, q_u_f, q_fn_f, q_cp_f, q_sg_pg, q_sg_hc, q_lt_t, q_lt_f, q_le_t, q_le_f, q_eq_t, q_eq_f, ne_eq, eq_self, Bool.false_eq_true, Bool.true_eq_false, not_true_eq_false, not_false_eq_true, true_and, and_true, false_and, and_false, true_or, or_true, false_or, or_false, if_true, if_false, Int.reduceAdd, Int.reduceMul, Int.reduceSub, Int.reduceNeg, hx, hy, hn, R_207_0, R_207_4, R_207_8, R_207_19, R_207_28, R_207_29, R_207_33, R_207_37, R_207_38]
        · simp (disch := first | omega | exact q_b_01 _) only [↓reduceIte, q_bk0, q_bk1, q_bk2, q_sg_b, q_b_0, q_b_n0, q_b_1, q_b_n1, q_b_T, q_b_F, q_sg_g, q_sg_sg, q_sg_xs, q_sg_id, q_gu_ne, q_gu_eq, q_g_fne, q_g_cpe, q_w_f, q_v_f, q_u_f, q_fn_f, q_cp_f, q_sg_pg, q_sg_hc, q_lt_t, q_lt_f, q_le_t, q_le_f, q_eq_t, q_eq_f, ne_eq, eq_self, Bool.false_eq_true, Bool.true_eq_false, not_true_eq_false, not_false_eq_true, true_and, and_true, false_and, and_false, true_or, or_true, false_or, or_false, if_true, if_false, Int.reduceAdd, Int.reduceMul, Int.reduceSub, Int.reduceNeg, hx, hy, hn, R_207_0, R_207_4, R_207_8, R_207_19, R_207_28, R_207_29, R_207_33, R_207_37, R_207_38]
      · by_cases hy : q_sg y = 0
        · simp (disch := first | omega | exact q_b_01 _) only [↓reduceIte, q_bk0, q_bk1, q_bk2, q_sg_b, q_b_0, q_b_n0, q_b_1, q_b_n1, q_b_T, q_b_F, q_sg_g, q_sg_sg, q_sg_xs, q_sg_id, q_gu_ne, q_gu_eq, q_g_fne, q_g_cpe, q_w_f, q_v_f, q_u_f, q_fn_f, q_cp_f, q_sg_pg, q_sg_hc, q_lt_t, q_lt_f, q_le_t, q_le_f, q_eq_t, q_eq_f, ne_eq, eq_self, Bool.false_eq_true, Bool.true_eq_false, not_true_eq_false, not_false_eq_true, true_and, and_true, false_and, and_false, true_or, or_true, false_or, or_false, if_true, if_false, Int.reduceAdd, Int.reduceMul, Int.reduceSub, Int.reduceNeg, hx, hy, R_207_0, R_207_4, R_207_8, R_207_19, R_207_28, R_207_29, R_207_33, R_207_37, R_207_38]
        · simp (disch := first | omega | exact q_b_01 _) only [↓reduceIte, q_bk0, q_bk1, q_bk2, q_sg_b, q_b_0, q_b_n0, q_b_1, q_b_n1, q_b_T, q_b_F, q_sg_g, q_sg_sg, q_sg_xs, q_sg_id, q_gu_ne, q_gu_eq, q_g_fne, q_g_cpe, q_w_f, q_v_f, q_u_f, q_fn_f, q_cp_f, q_sg_pg, q_sg_hc, q_lt_t, q_lt_f, q_le_t, q_le_f, q_eq_t, q_eq_f, ne_eq, eq_self, Bool.false_eq_true, Bool.true_eq_false, not_true_eq_false, not_false_eq_true, true_and, and_true, false_and, and_false, true_or, or_true, false_or, or_false, if_true, if_false, Int.reduceAdd, Int.reduceMul, Int.reduceSub, Int.reduceNeg, hx, hy, R_207_0, R_207_4, R_207_8, R_207_19, R_207_28, R_207_29, R_207_33, R_207_37, R_207_38]
    have ht : ∀ (x y : Int), EV (d + 39) 208 0 [.ref 1, .int (q_I (x)), .int (q_I (y))] [] (q_h L xs s O c) = some (.inl (some (.int (q_I (if q_sg x = 0 then (if q_sg y = 0 then 3 else 0) else if q_sg y = 0 then -(OM (q_g s 286)) else 1)))), q_h L xs (s) O c) := by
      intro x y
      by_cases hx : q_sg x = 0
      · by_cases hy : q_sg y = 0
        · simp (disch := first | omega | exact q_b_01 _) only [↓reduceIte, q_bk0, q_bk1, q_bk2, q_sg_b, q_b_0, q_b_n0, q_b_1, q_b_n1, q_b_T, q_b_F, q_sg_g, q_sg_sg, q_sg_xs, q_sg_id, q_gu_ne, q_gu_eq, q_g_fne, q_g_cpe, q_w_f, q_v_f, q_u_f, q_fn_f, q_cp_f, q_sg_pg, q_sg_hc, q_lt_t, q_lt_f, q_le_t, q_le_f, q_eq_t, q_eq_f, ne_eq, eq_self, Bool.false_eq_true, Bool.true_eq_false, not_true_eq_false, not_false_eq_true, true_and, and_true, false_and, and_false, true_or, or_true, false_or, or_false, if_true, if_false, Int.reduceAdd, Int.reduceMul, Int.reduceSub, Int.reduceNeg, hx, hy, R_208_0, R_208_4, R_208_8, R_208_12, R_208_13, R_208_14, R_208_18, R_208_25, R_208_29, R_208_30, C_208_22]
        · simp (disch := first | omega | exact q_b_01 _) only [↓reduceIte, q_bk0, q_bk1, q_bk2, q_sg_b, q_b_0, q_b_n0, q_b_1, q_b_n1, q_b_T, q_b_F, q_sg_g, q_sg_sg, q_sg_xs, q_sg_id, q_gu_ne, q_gu_eq, q_g_fne, q_g_cpe, q_w_f, q_v_f, q_u_f, q_fn_f, q_cp_f, q_sg_pg, q_sg_hc, q_lt_t, q_lt_f, q_le_t, q_le_f, q_eq_t, q_eq_f, ne_eq, eq_self, Bool.false_eq_true, Bool.true_eq_false, not_true_eq_false, not_false_eq_true, true_and, and_true, false_and, and_false, true_or, or_true, false_or, or_false, if_true, if_false, Int.reduceAdd, Int.reduceMul, Int.reduceSub, Int.reduceNeg, hx, hy, R_208_0, R_208_4, R_208_8, R_208_12, R_208_13, R_208_14, R_208_18, R_208_25, R_208_29, R_208_30, C_208_22]
      · by_cases hy : q_sg y = 0
        · simp (disch := first | omega | exact q_b_01 _) only [↓reduceIte, q_bk0, q_bk1, q_bk2, q_sg_b, q_b_0, q_b_n0, q_b_1, q_b_n1, q_b_T, q_b_F, q_sg_g, q_sg_sg, q_sg_xs, q_sg_id, q_gu_ne, q_gu_eq, q_g_fne, q_g_cpe, q_w_f, q_v_f, q_u_f, q_fn_f, q_cp_f, q_sg_pg, q_sg_hc, q_lt_t, q_lt_f, q_le_t, q_le_f, q_eq_t, q_eq_f, ne_eq, eq_self, Bool.false_eq_true, Bool.true_eq_false, not_true_eq_false, not_false_eq_true, true_and, and_true, false_and, and_false, true_or, or_true, false_or, or_false, if_true, if_false, Int.reduceAdd, Int.reduceMul, Int.reduceSub, Int.reduceNeg, hx, hy, R_208_0, R_208_4, R_208_8, R_208_12, R_208_13, R_208_14, R_208_18, R_208_25, R_208_29, R_208_30, C_208_22, cc_openReadersO H]
        · simp (disch := first | omega | exact q_b_01 _) only [↓reduceIte, q_bk0, q_bk1, q_bk2, q_sg_b, q_b_0, q_b_n0, q_b_1, q_b_n1, q_b_T, q_b_F, q_sg_g, q_sg_sg, q_sg_xs, q_sg_id, q_gu_ne, q_gu_eq, q_g_fne, q_g_cpe, q_w_f, q_v_f, q_u_f, q_fn_f, q_cp_f, q_sg_pg, q_sg_hc, q_lt_t, q_lt_f, q_le_t, q_le_f, q_eq_t, q_eq_f, ne_eq, eq_self, Bool.false_eq_true, Bool.true_eq_false, not_true_eq_false, not_false_eq_true, true_and, and_true, false_and, and_false, true_or, or_true, false_or, or_false, if_true, if_false, Int.reduceAdd, Int.reduceMul, Int.reduceSub, Int.reduceNeg, hx, hy, R_208_0, R_208_4, R_208_8, R_208_12, R_208_13, R_208_14, R_208_18, R_208_25, R_208_29, R_208_30, C_208_22]
    by_cases h0 : q_g s 286 8 = 0
    · simp (disch := first | omega | exact q_b_01 _) only [↓reduceIte, q_bk0, q_bk1, q_bk2, q_sg_b, q_b_0, q_b_n0, q_b_1, q_b_n1, q_b_T, q_b_F, q_sg_g, q_sg_sg, q_sg_xs, q_sg_id, q_gu_ne, q_gu_eq, q_g_fne, q_g_cpe, q_w_f, q_v_f, q_u_f, q_fn_f, q_cp_f, q_sg_pg, q_sg_hc, q_lt_t, q_lt_f, q_le_t, q_le_f, q_eq_t, q_eq_f, ne_eq, eq_self, Bool.false_eq_true, Bool.true_eq_false, not_true_eq_false, not_false_eq_true, true_and, and_true, false_and, and_false, true_or, or_true, false_or, or_false, if_true, if_false, Int.reduceAdd, Int.reduceMul, Int.reduceSub, Int.reduceNeg, h0, R_170_0, R_170_4, R_170_9, R_170_11, R_170_16, R_170_24, R_170_30, R_170_33, R_170_37, R_170_38, R_170_48, R_170_54, R_170_57, R_170_61, R_170_62, R_170_69, R_170_74, R_170_84, R_170_90, R_170_96, C_170_21, C_170_27, C_170_45, C_170_51, hw, ht]
      rfl
    · simp (disch := first | omega | exact q_b_01 _) only [↓reduceIte, q_bk0, q_bk1, q_bk2, q_sg_b, q_b_0, q_b_n0, q_b_1, q_b_n1, q_b_T, q_b_F, q_sg_g, q_sg_sg, q_sg_xs, q_sg_id, q_gu_ne, q_gu_eq, q_g_fne, q_g_cpe, q_w_f, q_v_f, q_u_f, q_fn_f, q_cp_f, q_sg_pg, q_sg_hc, q_lt_t, q_lt_f, q_le_t, q_le_f, q_eq_t, q_eq_f, ne_eq, eq_self, Bool.false_eq_true, Bool.true_eq_false, not_true_eq_false, not_false_eq_true, true_and, and_true, false_and, and_false, true_or, or_true, false_or, or_false, if_true, if_false, Int.reduceAdd, Int.reduceMul, Int.reduceSub, Int.reduceNeg, h0, R_170_0, R_170_4, R_170_9, R_170_11, R_170_16, R_170_24, R_170_30, R_170_33, R_170_37, R_170_38, R_170_48, R_170_54, R_170_57, R_170_61, R_170_62, R_170_69, R_170_74, R_170_84, R_170_90, R_170_96, C_170_21, C_170_27, C_170_45, C_170_51, hw, ht]
  · have em : q_g (q_u s 285 0 0) 286 = q_g s 286 := q_u_f (by decide)
    have hw : ∀ (x y : Int), EV (d + 39) 337 0 [.ref 285, .int (q_I (x)), .int (q_I (y))] [] (q_h L xs (q_u s 285 0 0) O c) = some (.inl (some (.int (q_I (if q_sg x = 0 then (if q_sg y = 0 then -(q_g s 286 8) else 2 * q_g s 286 8) else if q_sg y = 0 then 0 else -1)))), q_h L xs (q_u s 285 0 0) O c) := by
      intro x y
      by_cases hx : q_sg x = 0
      · by_cases hy : q_sg y = 0
        · simp (disch := first | omega | exact q_b_01 _) only [↓reduceIte, q_bk0, q_bk1, q_bk2, q_sg_b, q_b_0, q_b_n0, q_b_1, q_b_n1, q_b_T, q_b_F, q_sg_g, q_sg_sg, q_sg_xs, q_sg_id, q_gu_ne, q_gu_eq, q_g_fne, q_g_cpe, q_w_f, q_v_f, q_u_f, q_fn_f, q_cp_f, q_sg_pg, q_sg_hc, q_lt_t, q_lt_f, q_le_t, q_le_f, q_eq_t, q_eq_f, ne_eq, eq_self, Bool.false_eq_true, Bool.true_eq_false, not_true_eq_false, not_false_eq_true, true_and, and_true, false_and, and_false, true_or, or_true, false_or, or_false, if_true, if_false, Int.reduceAdd, Int.reduceMul, Int.reduceSub, Int.reduceNeg, hx, hy, R_337_0, R_337_4, R_337_8, R_337_15, R_337_19, R_337_27, R_337_28, R_337_29, R_337_33, R_337_37, R_337_38]
        · simp (disch := first | omega | exact q_b_01 _) only [↓reduceIte, q_bk0, q_bk1, q_bk2, q_sg_b, q_b_0, q_b_n0, q_b_1, q_b_n1, q_b_T, q_b_F, q_sg_g, q_sg_sg, q_sg_xs, q_sg_id, q_gu_ne, q_gu_eq, q_g_fne, q_g_cpe, q_w_f, q_v_f, q_u_f, q_fn_f, q_cp_f, q_sg_pg, q_sg_hc, q_lt_t, q_lt_f, q_le_t, q_le_f, q_eq_t, q_eq_f, ne_eq, eq_self, Bool.false_eq_true, Bool.true_eq_false, not_true_eq_false, not_false_eq_true, true_and, and_true, false_and, and_false, true_or, or_true, false_or, or_false, if_true, if_false, Int.reduceAdd, Int.reduceMul, Int.reduceSub, Int.reduceNeg, hx, hy, R_337_0, R_337_4, R_337_8, R_337_15, R_337_19, R_337_27, R_337_28, R_337_29, R_337_33, R_337_37, R_337_38]
      · by_cases hy : q_sg y = 0
        · simp (disch := first | omega | exact q_b_01 _) only [↓reduceIte, q_bk0, q_bk1, q_bk2, q_sg_b, q_b_0, q_b_n0, q_b_1, q_b_n1, q_b_T, q_b_F, q_sg_g, q_sg_sg, q_sg_xs, q_sg_id, q_gu_ne, q_gu_eq, q_g_fne, q_g_cpe, q_w_f, q_v_f, q_u_f, q_fn_f, q_cp_f, q_sg_pg, q_sg_hc, q_lt_t, q_lt_f, q_le_t, q_le_f, q_eq_t, q_eq_f, ne_eq, eq_self, Bool.false_eq_true, Bool.true_eq_false, not_true_eq_false, not_false_eq_true, true_and, and_true, false_and, and_false, true_or, or_true, false_or, or_false, if_true, if_false, Int.reduceAdd, Int.reduceMul, Int.reduceSub, Int.reduceNeg, hx, hy, R_337_0, R_337_4, R_337_8, R_337_15, R_337_19, R_337_27, R_337_28, R_337_29, R_337_33, R_337_37, R_337_38]
        · simp (disch := first | omega | exact q_b_01 _) only [↓reduceIte, q_bk0, q_bk1, q_bk2, q_sg_b, q_b_0, q_b_n0, q_b_1, q_b_n1, q_b_T, q_b_F, q_sg_g, q_sg_sg, q_sg_xs, q_sg_id, q_gu_ne, q_gu_eq, q_g_fne, q_g_cpe, q_w_f, q_v_f, q_u_f, q_fn_f, q_cp_f, q_sg_pg, q_sg_hc, q_lt_t, q_lt_f, q_le_t, q_le_f, q_eq_t, q_eq_f, ne_eq, eq_self, Bool.false_eq_true, Bool.true_eq_false, not_true_eq_false, not_false_eq_true, true_and, and_true, false_and, and_false, true_or, or_true, false_or, or_false, if_true, if_false, Int.reduceAdd, Int.reduceMul, Int.reduceSub, Int.reduceNeg, hx, hy, R_337_0, R_337_4, R_337_8, R_337_15, R_337_19, R_337_27, R_337_28, R_337_29, R_337_33, R_337_37, R_337_38]
    have ht : ∀ (x y : Int), EV (d + 39) 338 0 [.ref 285, .int (q_I (x)), .int (q_I (y))] [] (q_h L xs (q_u s 285 0 0) O c) = some (.inl (some (.int (q_I (if q_sg x = 0 then (if q_sg y = 0 then 3 else 0) else if q_sg y = 0 then -(OM (q_g s 286)) else 1)))), q_h L xs (q_u s 285 0 0) O c) := by
      intro x y
      by_cases hx : q_sg x = 0
      · by_cases hy : q_sg y = 0
        · simp (disch := first | omega | exact q_b_01 _) only [↓reduceIte, q_bk0, q_bk1, q_bk2, q_sg_b, q_b_0, q_b_n0, q_b_1, q_b_n1, q_b_T, q_b_F, q_sg_g, q_sg_sg, q_sg_xs, q_sg_id, q_gu_ne, q_gu_eq, q_g_fne, q_g_cpe, q_w_f, q_v_f, q_u_f, q_fn_f, q_cp_f, q_sg_pg, q_sg_hc, q_lt_t, q_lt_f, q_le_t, q_le_f, q_eq_t, q_eq_f, ne_eq, eq_self, Bool.false_eq_true, Bool.true_eq_false, not_true_eq_false, not_false_eq_true, true_and, and_true, false_and, and_false, true_or, or_true, false_or, or_false, if_true, if_false, Int.reduceAdd, Int.reduceMul, Int.reduceSub, Int.reduceNeg, hx, hy, R_338_0, R_338_4, R_338_8, R_338_12, R_338_13, R_338_14, R_338_18, R_338_22, R_338_26, R_338_27, C_338_19]
        · simp (disch := first | omega | exact q_b_01 _) only [↓reduceIte, q_bk0, q_bk1, q_bk2, q_sg_b, q_b_0, q_b_n0, q_b_1, q_b_n1, q_b_T, q_b_F, q_sg_g, q_sg_sg, q_sg_xs, q_sg_id, q_gu_ne, q_gu_eq, q_g_fne, q_g_cpe, q_w_f, q_v_f, q_u_f, q_fn_f, q_cp_f, q_sg_pg, q_sg_hc, q_lt_t, q_lt_f, q_le_t, q_le_f, q_eq_t, q_eq_f, ne_eq, eq_self, Bool.false_eq_true, Bool.true_eq_false, not_true_eq_false, not_false_eq_true, true_and, and_true, false_and, and_false, true_or, or_true, false_or, or_false, if_true, if_false, Int.reduceAdd, Int.reduceMul, Int.reduceSub, Int.reduceNeg, hx, hy, R_338_0, R_338_4, R_338_8, R_338_12, R_338_13, R_338_14, R_338_18, R_338_22, R_338_26, R_338_27, C_338_19]
      · by_cases hy : q_sg y = 0
        · simp (disch := first | omega | exact q_b_01 _) only [↓reduceIte, q_bk0, q_bk1, q_bk2, q_sg_b, q_b_0, q_b_n0, q_b_1, q_b_n1, q_b_T, q_b_F, q_sg_g, q_sg_sg, q_sg_xs, q_sg_id, q_gu_ne, q_gu_eq, q_g_fne, q_g_cpe, q_w_f, q_v_f, q_u_f, q_fn_f, q_cp_f, q_sg_pg, q_sg_hc, q_lt_t, q_lt_f, q_le_t, q_le_f, q_eq_t, q_eq_f, ne_eq, eq_self, Bool.false_eq_true, Bool.true_eq_false, not_true_eq_false, not_false_eq_true, true_and, and_true, false_and, and_false, true_or, or_true, false_or, or_false, if_true, if_false, Int.reduceAdd, Int.reduceMul, Int.reduceSub, Int.reduceNeg, hx, hy, R_338_0, R_338_4, R_338_8, R_338_12, R_338_13, R_338_14, R_338_18, R_338_22, R_338_26, R_338_27, C_338_19, mm_openManyO em]
        · simp (disch := first | omega | exact q_b_01 _) only [↓reduceIte, q_bk0, q_bk1, q_bk2, q_sg_b, q_b_0, q_b_n0, q_b_1, q_b_n1, q_b_T, q_b_F, q_sg_g, q_sg_sg, q_sg_xs, q_sg_id, q_gu_ne, q_gu_eq, q_g_fne, q_g_cpe, q_w_f, q_v_f, q_u_f, q_fn_f, q_cp_f, q_sg_pg, q_sg_hc, q_lt_t, q_lt_f, q_le_t, q_le_f, q_eq_t, q_eq_f, ne_eq, eq_self, Bool.false_eq_true, Bool.true_eq_false, not_true_eq_false, not_false_eq_true, true_and, and_true, false_and, and_false, true_or, or_true, false_or, or_false, if_true, if_false, Int.reduceAdd, Int.reduceMul, Int.reduceSub, Int.reduceNeg, hx, hy, R_338_0, R_338_4, R_338_8, R_338_12, R_338_13, R_338_14, R_338_18, R_338_22, R_338_26, R_338_27, C_338_19]
    have dv : q_dv 0 2 = 0 ∧ q_dv 1 2 = 0 ∧ q_dv 2 2 = 1 ∧ q_dv 3 2 = 1 ∧ q_rm 0 2 = 0 ∧ q_rm 1 2 = 1 ∧ q_rm 2 2 = 0 ∧ q_rm 3 2 = 1 := by decide
    obtain ⟨d0, d1, d2, d3, r0, r1, r2, r3⟩ := dv
    by_cases h0 : q_g s 286 8 = 0
    · simp (disch := first | omega | exact q_b_01 _) only [↓reduceIte, q_bk0, q_bk1, q_bk2, q_sg_b, q_b_0, q_b_n0, q_b_1, q_b_n1, q_b_T, q_b_F, q_sg_g, q_sg_sg, q_sg_xs, q_sg_id, q_gu_ne, q_gu_eq, q_g_fne, q_g_cpe, q_w_f, q_v_f, q_u_f, q_fn_f, q_cp_f, q_sg_pg, q_sg_hc, q_lt_t, q_lt_f, q_le_t, q_le_f, q_eq_t, q_eq_f, ne_eq, eq_self, Bool.false_eq_true, Bool.true_eq_false, not_true_eq_false, not_false_eq_true, true_and, and_true, false_and, and_false, true_or, or_true, false_or, or_false, if_true, if_false, Int.reduceAdd, Int.reduceMul, Int.reduceSub, Int.reduceNeg, h0, d0, d1, d2, d3, r0, r1, r2, r3, R_339_0, R_339_5, R_339_9, R_339_14, R_339_17, R_339_21, R_339_32, R_339_39, R_339_42, R_339_51, R_339_58, R_339_61, R_339_67, R_339_73, C_339_29, C_339_36, C_339_48, C_339_55, hw, ht]
      rfl
    · simp (disch := first | omega | exact q_b_01 _) only [↓reduceIte, q_bk0, q_bk1, q_bk2, q_sg_b, q_b_0, q_b_n0, q_b_1, q_b_n1, q_b_T, q_b_F, q_sg_g, q_sg_sg, q_sg_xs, q_sg_id, q_gu_ne, q_gu_eq, q_g_fne, q_g_cpe, q_w_f, q_v_f, q_u_f, q_fn_f, q_cp_f, q_sg_pg, q_sg_hc, q_lt_t, q_lt_f, q_le_t, q_le_f, q_eq_t, q_eq_f, ne_eq, eq_self, Bool.false_eq_true, Bool.true_eq_false, not_true_eq_false, not_false_eq_true, true_and, and_true, false_and, and_false, true_or, or_true, false_or, or_false, if_true, if_false, Int.reduceAdd, Int.reduceMul, Int.reduceSub, Int.reduceNeg, h0, d0, d1, d2, d3, r0, r1, r2, r3, R_339_0, R_339_5, R_339_9, R_339_14, R_339_17, R_339_21, R_339_32, R_339_39, R_339_42, R_339_51, R_339_58, R_339_61, R_339_67, R_339_73, C_339_29, C_339_36, C_339_48, C_339_55, hw, ht]
theorem op_fault (B : Big b s) : Op0 (Big b) (fun h => EV (d + 40) 140 0 [.ref 1] [] h) (fun h => EV (d + 40) 252 0 [.ref 285] [] h) L xs s O c := by
  refine ⟨q_g s 285 12, s, q_u s 285 0 0, ?_, ?_, Big_sm B (Sm_u Sm_rfl (by unfold relz relc; omega))⟩
  · simp (disch := first | omega | exact q_b_01 _) only [↓reduceIte, q_bk0, q_bk1, q_bk2, q_sg_b, q_b_0, q_b_n0, q_b_1, q_b_n1, q_b_T, q_b_F, q_sg_g, q_sg_sg, q_sg_xs, q_sg_id, q_gu_ne, q_gu_eq, q_g_fne, q_g_cpe, q_w_f, q_v_f, q_u_f, q_fn_f, q_cp_f, q_sg_pg, q_sg_hc, q_lt_t, q_lt_f, q_le_t, q_le_f, q_eq_t, q_eq_f, ne_eq, eq_self, Bool.false_eq_true, Bool.true_eq_false, not_true_eq_false, not_false_eq_true, true_and, and_true, false_and, and_false, true_or, or_true, false_or, or_false, if_true, if_false, Int.reduceAdd, Int.reduceMul, Int.reduceSub, Int.reduceNeg, R_140_0]
    rw [B.2.2.1]
  · simp (disch := first | omega | exact q_b_01 _) only [↓reduceIte, q_bk0, q_bk1, q_bk2, q_sg_b, q_b_0, q_b_n0, q_b_1, q_b_n1, q_b_T, q_b_F, q_sg_g, q_sg_sg, q_sg_xs, q_sg_id, q_gu_ne, q_gu_eq, q_g_fne, q_g_cpe, q_w_f, q_v_f, q_u_f, q_fn_f, q_cp_f, q_sg_pg, q_sg_hc, q_lt_t, q_lt_f, q_le_t, q_le_f, q_eq_t, q_eq_f, ne_eq, eq_self, Bool.false_eq_true, Bool.true_eq_false, not_true_eq_false, not_false_eq_true, true_and, and_true, false_and, and_false, true_or, or_true, false_or, or_false, if_true, if_false, Int.reduceAdd, Int.reduceMul, Int.reduceSub, Int.reduceNeg, R_252_0, R_252_5]
/-- the tape alone is changed -/
def SmT (s t : Nat → Int → Int32) : Prop := ∀ k z, relz k z → ¬ (k = 3 ∨ k = 290 ∨ k = 2 ∧ z = 1 ∨ k = 285 ∧ z = 8) → t k z = s k z
theorem Big_tape {t : Nat → Int → Int32} (B : Big b s) (h : SmT s t) (T : q_g t 285 8 = q_g t 2 1 ∧ 0 ≤ q_g t 2 1 ∧ q_g t 2 1 ≤ 400 ∧ ∀ k, 0 ≤ k → k < q_g t 2 1 → q_g t 3 k = q_g t 290 k ∧ 0 ≤ q_g t 290 k ∧ q_g t 290 k ≤ 255) : Big b t := by
  let u : Nat → Int → Int32 := fun k z => if k = 3 ∨ k = 290 ∨ k = 2 ∧ z = 1 ∨ k = 285 ∧ z = 8 then s k z else t k z
  have hu : Big b u := Big_sm B (fun k z hz => by
    show (if k = 3 ∨ k = 290 ∨ k = 2 ∧ z = 1 ∨ k = 285 ∧ z = 8 then s k z else t k z) = s k z
    split
    · rfl
    · exact h k z hz (by assumption))
  have g : ∀ k z, ¬ (k = 3 ∨ k = 290 ∨ k = 2 ∧ z = 1 ∨ k = 285 ∧ z = 8) → q_g u k z = q_g t k z := fun k z hk => by
    show (if k = 3 ∨ k = 290 ∨ k = 2 ∧ z = 1 ∨ k = 285 ∧ z = 8 then s k z else t k z).toInt = _
    rw [if_neg hk]
    rfl
  have f : ∀ k, k ≠ 3 → k ≠ 290 → k ≠ 2 → k ≠ 285 → q_g u k = q_g t k := fun k a1 a2 a3 a4 => funext fun z => g k z (by omega)
  obtain ⟨⟨a1, a2, a3⟩, a4, a5, a6, a7⟩ := hu
  have fb : blk u = blk t := by
    funext j z
    exact g 289 _ (by omega)
  have fh : hst u = hst t := by
    funext j
    unfold hst
    rw [f 71 (by decide) (by decide) (by decide) (by decide)]
  rw [f 286 (by decide) (by decide) (by decide) (by decide)] at a1 a2 a3
  rw [f 49 (by decide) (by decide) (by decide) (by decide), f 50 (by decide) (by decide) (by decide) (by decide), f 51 (by decide) (by decide) (by decide) (by decide), f 52 (by decide) (by decide) (by decide) (by decide), f 53 (by decide) (by decide) (by decide) (by decide)] at a3
  rw [g 285 12 (by omega), g 2 6 (by omega)] at a5
  rw [g 285 6 (by omega), f 71 (by decide) (by decide) (by decide) (by decide), f 286 (by decide) (by decide) (by decide) (by decide), fb, fh] at a6
  rw [g 285 3 (by omega), f 1 (by decide) (by decide) (by decide) (by decide), f 287 (by decide) (by decide) (by decide) (by decide), f 61 (by decide) (by decide) (by decide) (by decide), f 62 (by decide) (by decide) (by decide) (by decide), f 63 (by decide) (by decide) (by decide) (by decide), f 64 (by decide) (by decide) (by decide) (by decide), f 65 (by decide) (by decide) (by decide) (by decide)] at a7
  refine ⟨⟨rb_sm a1 (fun k h1 h2 => (f k (by omega) (by omega) (by omega) (by omega)).symm), a2, a3⟩, T, a5, ⟨a6.1, a6.2.1, a6.2.2.1, a6.2.2.2.1, a6.2.2.2.2.1, fun j h1 h2 => ?_⟩, a7.1, a7.2.1, fun h1 => ?_⟩
  · obtain ⟨d1, d2, d3, d4⟩ := a6.2.2.2.2.2 j h1 h2
    have := hst_rg t j
    exact ⟨rb_sm d1 (fun k h1 h2 => (f k (by omega) (by omega) (by omega) (by omega)).symm), d2, d3, d4⟩
  · obtain ⟨d1, d2, d3⟩ := a7.2.2 h1
    exact ⟨rb_sm d1 (fun k h1 h2 => (f k (by omega) (by omega) (by omega) (by omega)).symm), d2, d3⟩
theorem SmT_u {t : Nat → Int → Int32} {k : Nat} {z v : Int} (h : SmT s t) (hk : ¬ relz k z ∨ k = 3 ∨ k = 290 ∨ k = 2 ∧ z = 1 ∨ k = 285 ∧ z = 8) : SmT s (q_u t k z v) := by
  intro k' z' hz hn
  unfold q_u
  rw [if_neg, h k' z' hz hn]
  rintro ⟨e1, e2⟩
  subst e1
  subst e2
  rcases hk with hk | hk
  · exact hk hz
  · exact hn hk
theorem SmT_fn {t : Nat → Int → Int32} {k : Nat} {lo hi : Int} {f : Int → Int} (h : SmT s t) (hk : k = 3 ∨ k = 290) : SmT s (q_fn t k lo hi f) := by
  intro k' z' hz hn
  unfold q_fn
  rw [if_neg, h k' z' hz hn]
  rintro ⟨e1, e2⟩
  subst e1
  exact hn (by omega)
theorem op_end (B : Big b s) {n : Int} (v1 : -2147483648 ≤ n) (v2 : n < 2147483648) : Op0 (Big b) (fun h => EV (d + 40) 137 0 [.ref 1, .int (q_I (n))] [] h) (fun h => EV (d + 40) 227 0 [.ref 285, .int (q_I (n))] [] h) L xs s O c := by
  have T := B.2.1
  by_cases h : 0 ≤ n ∧ n ≤ q_g s 2 1
  · refine ⟨1, q_u s 2 1 n, q_u (q_u (q_u s 2 1 n) 285 0 0) 285 8 n, ?_, ?_, Big_tape B (SmT_u (SmT_u (SmT_u (fun _ _ _ _ => rfl) (by omega)) (by unfold relz relc; omega)) (by omega)) ?_⟩
    · simp (disch := first | omega | exact q_b_01 _) only [↓reduceIte, q_bk0, q_bk1, q_bk2, q_sg_b, q_b_0, q_b_n0, q_b_1, q_b_n1, q_b_T, q_b_F, q_sg_g, q_sg_sg, q_sg_xs, q_sg_id, q_gu_ne, q_gu_eq, q_g_fne, q_g_cpe, q_w_f, q_v_f, q_u_f, q_fn_f, q_cp_f, q_sg_pg, q_sg_hc, q_lt_t, q_lt_f, q_le_t, q_le_f, q_eq_t, q_eq_f, ne_eq, eq_self, Bool.false_eq_true, Bool.true_eq_false, not_true_eq_false, not_false_eq_true, true_and, and_true, false_and, and_false, true_or, or_true, false_or, or_false, if_true, if_false, Int.reduceAdd, Int.reduceMul, Int.reduceSub, Int.reduceNeg, R_137_0, R_137_4, R_137_15, R_137_17, R_137_25]
    · simp (disch := first | omega | exact q_b_01 _) only [↓reduceIte, q_bk0, q_bk1, q_bk2, q_sg_b, q_b_0, q_b_n0, q_b_1, q_b_n1, q_b_T, q_b_F, q_sg_g, q_sg_sg, q_sg_xs, q_sg_id, q_gu_ne, q_gu_eq, q_g_fne, q_g_cpe, q_w_f, q_v_f, q_u_f, q_fn_f, q_cp_f, q_sg_pg, q_sg_hc, q_lt_t, q_lt_f, q_le_t, q_le_f, q_eq_t, q_eq_f, ne_eq, eq_self, Bool.false_eq_true, Bool.true_eq_false, not_true_eq_false, not_false_eq_true, true_and, and_true, false_and, and_false, true_or, or_true, false_or, or_false, if_true, if_false, Int.reduceAdd, Int.reduceMul, Int.reduceSub, Int.reduceNeg, T.1, R_227_0, R_227_5, R_227_14, R_227_17, R_227_19, R_227_24, C_227_11, mm_isIn]
    · simp (disch := first | omega | exact q_b_01 _) only [↓reduceIte, q_bk0, q_bk1, q_bk2, q_sg_b, q_b_0, q_b_n0, q_b_1, q_b_n1, q_b_T, q_b_F, q_sg_g, q_sg_sg, q_sg_xs, q_sg_id, q_gu_ne, q_gu_eq, q_g_fne, q_g_cpe, q_w_f, q_v_f, q_u_f, q_fn_f, q_cp_f, q_sg_pg, q_sg_hc, q_lt_t, q_lt_f, q_le_t, q_le_f, q_eq_t, q_eq_f, ne_eq, eq_self, Bool.false_eq_true, Bool.true_eq_false, not_true_eq_false, not_false_eq_true, true_and, and_true, false_and, and_false, true_or, or_true, false_or, or_false, if_true, if_false, Int.reduceAdd, Int.reduceMul, Int.reduceSub, Int.reduceNeg]
      exact fun k k0 k1 => T.2.2.2 k k0 (by omega)
  · have h' : ¬ (0 ≤ n ∧ n ≤ q_g s 285 8) := by
      rw [T.1]
      exact h
    refine ⟨0, s, q_u s 285 0 0, ?_, ?_, Big_sm B (Sm_u Sm_rfl (by unfold relz relc; omega))⟩
    · by_cases h2 : n < 0
      · simp (disch := first | omega | exact q_b_01 _) only [↓reduceIte, q_bk0, q_bk1, q_bk2, q_sg_b, q_b_0, q_b_n0, q_b_1, q_b_n1, q_b_T, q_b_F, q_sg_g, q_sg_sg, q_sg_xs, q_sg_id, q_gu_ne, q_gu_eq, q_g_fne, q_g_cpe, q_w_f, q_v_f, q_u_f, q_fn_f, q_cp_f, q_sg_pg, q_sg_hc, q_lt_t, q_lt_f, q_le_t, q_le_f, q_eq_t, q_eq_f, ne_eq, eq_self, Bool.false_eq_true, Bool.true_eq_false, not_true_eq_false, not_false_eq_true, true_and, and_true, false_and, and_false, true_or, or_true, false_or, or_false, if_true, if_false, Int.reduceAdd, Int.reduceMul, Int.reduceSub, Int.reduceNeg, R_137_0, R_137_4, R_137_15, R_137_17, R_137_25]
      · simp (disch := first | omega | exact q_b_01 _) only [↓reduceIte, q_bk0, q_bk1, q_bk2, q_sg_b, q_b_0, q_b_n0, q_b_1, q_b_n1, q_b_T, q_b_F, q_sg_g, q_sg_sg, q_sg_xs, q_sg_id, q_gu_ne, q_gu_eq, q_g_fne, q_g_cpe, q_w_f, q_v_f, q_u_f, q_fn_f, q_cp_f, q_sg_pg, q_sg_hc, q_lt_t, q_lt_f, q_le_t, q_le_f, q_eq_t, q_eq_f, ne_eq, eq_self, Bool.false_eq_true, Bool.true_eq_false, not_true_eq_false, not_false_eq_true, true_and, and_true, false_and, and_false, true_or, or_true, false_or, or_false, if_true, if_false, Int.reduceAdd, Int.reduceMul, Int.reduceSub, Int.reduceNeg, R_137_0, R_137_4, R_137_15, R_137_17, R_137_25]
    · simp (disch := first | omega | exact q_b_01 _) only [↓reduceIte, q_bk0, q_bk1, q_bk2, q_sg_b, q_b_0, q_b_n0, q_b_1, q_b_n1, q_b_T, q_b_F, q_sg_g, q_sg_sg, q_sg_xs, q_sg_id, q_gu_ne, q_gu_eq, q_g_fne, q_g_cpe, q_w_f, q_v_f, q_u_f, q_fn_f, q_cp_f, q_sg_pg, q_sg_hc, q_lt_t, q_lt_f, q_le_t, q_le_f, q_eq_t, q_eq_f, ne_eq, eq_self, Bool.false_eq_true, Bool.true_eq_false, not_true_eq_false, not_false_eq_true, true_and, and_true, false_and, and_false, true_or, or_true, false_or, or_false, if_true, if_false, Int.reduceAdd, Int.reduceMul, Int.reduceSub, Int.reduceNeg, h', R_227_0, R_227_5, R_227_14, R_227_17, R_227_19, R_227_24, C_227_11, mm_isIn]
theorem cc_append {x : Int} (h0 : 0 ≤ q_g s 2 1) (h1 : q_g s 2 1 + 4 ≤ 400) : EV (d) 111 0 [.ref 2, .int (q_I (x)), .null] [] (q_h L xs s O c) = some (.inl none, q_h L xs (q_u (q_fn s 3 (q_g s 2 1) (q_g s 2 1 + 4) (fun z => q_and (q_ushr x (24 - 8 * (z - q_g s 2 1))) 255)) 2 1 (q_g s 2 1 + 4)) O c) := by
  generalize hn : q_g s 2 1 = n at *
  have key := q_for (fun j t => EV (d) 111 3 [.ref 2, .int (q_I (x)), .int (q_I (24 - 8 * j))] [] (q_h L xs (t) O c)) (fun j t => t = if j = 0 then s else q_u (q_fn s 3 n (n + j) (fun z => q_and (q_ushr x (24 - 8 * (z - n))) 255)) 2 1 (n + j)) (lo := 0) (hi := 4) (by omega) (fun j t a1 a2 et => by
    have g : q_g t 2 1 = n + j := by
      rw [et]
      split
      · omega
      · rw [q_gu_eq rfl, q_sg_id (by omega) (by omega)]
    refine ⟨_, ?_, rfl⟩
    rw [if_neg (show ¬ j + 1 = 0 by omega), R_111_3]
    simp (disch := first | omega | exact q_b_01 _) only [↓reduceIte, q_bk0, q_bk1, q_bk2, q_sg_b, q_b_0, q_b_n0, q_b_1, q_b_n1, q_b_T, q_b_F, q_sg_g, q_sg_sg, q_sg_xs, q_sg_id, q_gu_ne, q_gu_eq, q_g_fne, q_g_cpe, q_w_f, q_v_f, q_u_f, q_fn_f, q_cp_f, q_sg_pg, q_sg_hc, q_lt_t, q_lt_f, q_le_t, q_le_f, q_eq_t, q_eq_f, ne_eq, eq_self, Bool.false_eq_true, Bool.true_eq_false, not_true_eq_false, not_false_eq_true, true_and, and_true, false_and, and_false, true_or, or_true, false_or, or_false, if_true, if_false, Int.reduceAdd, Int.reduceMul, Int.reduceSub, Int.reduceNeg, g, R_111_0, R_111_7, R_111_17, R_111_33, R_111_43, R_111_46, R_111_49]
    rw [show 24 - 8 * j + -8 = 24 - 8 * (j + 1) by omega]
    refine congrArg (fun u => EV d 111 3 [Value.ref 2, Value.int (q_I x), Value.int (q_I (24 - 8 * (j + 1)))] [] (q_h L xs u O c)) ?_
    have fu := q_fn_1 s 3 (lo := n) (j := n + j) (v := q_and (q_ushr x (24 - 8 * j)) 255) (fun z => q_and (q_ushr x (24 - 8 * (z - n))) 255) (by omega) (by rw [show n + j - n = j by omega])
    rw [← Int.add_assoc, ← fu, et]
    by_cases e0 : j = 0
    · subst e0
      rw [if_pos rfl, Int.add_zero, q_fn_0]
    · rw [if_neg e0, q_uu_ne (k := 2) (k' := 3) (by omega), q_uu_eq]) (t := s) (by rw [if_pos rfl])
  obtain ⟨t, e1, e2⟩ := key
  rw [if_neg (show ¬ (4 : Int) = 0 by omega)] at e2
  simp (disch := first | omega | exact q_b_01 _) only [↓reduceIte, q_bk0, q_bk1, q_bk2, q_sg_b, q_b_0, q_b_n0, q_b_1, q_b_n1, q_b_T, q_b_F, q_sg_g, q_sg_sg, q_sg_xs, q_sg_id, q_gu_ne, q_gu_eq, q_g_fne, q_g_cpe, q_w_f, q_v_f, q_u_f, q_fn_f, q_cp_f, q_sg_pg, q_sg_hc, q_lt_t, q_lt_f, q_le_t, q_le_f, q_eq_t, q_eq_f, ne_eq, eq_self, Bool.false_eq_true, Bool.true_eq_false, not_true_eq_false, not_false_eq_true, true_and, and_true, false_and, and_false, true_or, or_true, false_or, or_false, if_true, if_false, Int.reduceAdd, Int.reduceMul, Int.reduceSub, Int.reduceNeg, R_111_0, R_111_7, R_111_17, R_111_33, R_111_43, R_111_46, R_111_49]
  refine Eq.trans e1 ?_
  rw [R_111_3, e2]
  simp (disch := first | omega | exact q_b_01 _) only [↓reduceIte, q_bk0, q_bk1, q_bk2, q_sg_b, q_b_0, q_b_n0, q_b_1, q_b_n1, q_b_T, q_b_F, q_sg_g, q_sg_sg, q_sg_xs, q_sg_id, q_gu_ne, q_gu_eq, q_g_fne, q_g_cpe, q_w_f, q_v_f, q_u_f, q_fn_f, q_cp_f, q_sg_pg, q_sg_hc, q_lt_t, q_lt_f, q_le_t, q_le_f, q_eq_t, q_eq_f, ne_eq, eq_self, Bool.false_eq_true, Bool.true_eq_false, not_true_eq_false, not_false_eq_true, true_and, and_true, false_and, and_false, true_or, or_true, false_or, or_false, if_true, if_false, Int.reduceAdd, Int.reduceMul, Int.reduceSub, Int.reduceNeg, R_111_0, R_111_7, R_111_17, R_111_33, R_111_43, R_111_46, R_111_49]
def wd (a e f g h k : Int) : Int := if k < 4 then a else if k < 8 then e else if k < 12 then f else if k < 16 then g else h
theorem q_and_255 (x : Int) : 0 ≤ q_and x 255 ∧ q_and x 255 ≤ 255 := by
  unfold q_and
  have key : ∀ w : BitVec 32, 0 ≤ (w &&& 255#32).toInt ∧ (w &&& 255#32).toInt ≤ 255 := by
    intro w
    have h : (w &&& 255#32).toNat ≤ 255 := by
      rw [BitVec.toNat_and]
      exact Nat.and_le_right
    rw [BitVec.toInt_eq_toNat_of_lt (by omega)]
    omega
  exact key (q_I x).toBitVec
theorem q_u_n {k : Nat} {z v : Int} {k' : Nat} {z' : Int} (h : ¬ (k' = k ∧ z' = z)) : q_u s k z v k' z' = s k' z' := if_neg h
theorem cc_ap {x n : Int} (hn : q_g s 2 1 = n) (h0 : 0 ≤ n) (h1 : n + 4 ≤ 400) : ∃ t, EV (d) 111 0 [.ref 2, .int (q_I (x)), .null] [] (q_h L xs s O c) = some (.inl none, q_h L xs (t) O c) ∧ q_g t 2 1 = n + 4 ∧ (∀ z, q_g t 3 z = if n ≤ z ∧ z < n + 4 then q_and (q_ushr x (24 - 8 * (z - n))) 255 else q_g s 3 z) ∧ ∀ k z, k ≠ 3 → ¬ (k = 2 ∧ z = 1) → t k z = s k z := by
  subst hn
  refine ⟨_, cc_append h0 h1, ?_, fun z => ?_, fun k z k3 k2 => ?_⟩
  · rw [q_gu_eq rfl, q_sg_id (by omega) (by omega)]
  · rw [q_gu_ne (by omega), q_g_fn]
    by_cases e : q_g s 2 1 ≤ z ∧ z < q_g s 2 1 + 4
    · have := q_and_255 (q_ushr x (24 - 8 * (z - q_g s 2 1)))
      rw [if_pos ⟨rfl, e⟩, if_pos e, q_sg_id (by omega) (by omega)]
    · rw [if_neg (fun h => e h.2), if_neg e]
  · unfold q_u q_fn
    rw [if_neg k2]
    dsimp only
    rw [if_neg (fun h => k3 h.1)]
theorem op_feed (B : Big b s) {x1 x2 x3 x4 x5 : Int} : Op0 (Big b) (fun h => EV (d + 40) 136 0 [.ref 1, .int (q_I (x1)), .int (q_I (x2)), .int (q_I (x3)), .int (q_I (x4)), .int (q_I (x5))] [] h) (fun h => EV (d + 40) 226 0 [.ref 285, .int (q_I (x1)), .int (q_I (x2)), .int (q_I (x3)), .int (q_I (x4)), .int (q_I (x5)), .null, .null] [] h) L xs s O c := by
  have T := B.2.1
  generalize hn : q_g s 2 1 = n at *
  by_cases h1 : n + 20 ≤ 400
  · obtain ⟨t1, e1, n1, f1, g1⟩ := cc_ap (d := d + 39) (L := L) (xs := xs) (O := O) (c := c) (x := x1) hn T.2.1 (by omega)
    obtain ⟨t2, e2, n2, f2, g2⟩ := cc_ap (d := d + 39) (L := L) (xs := xs) (O := O) (c := c) (x := x2) n1 (by omega) (by omega)
    obtain ⟨t3, e3, n3, f3, g3⟩ := cc_ap (d := d + 39) (L := L) (xs := xs) (O := O) (c := c) (x := x3) n2 (by omega) (by omega)
    obtain ⟨t4, e4, n4, f4, g4⟩ := cc_ap (d := d + 39) (L := L) (xs := xs) (O := O) (c := c) (x := x4) n3 (by omega) (by omega)
    obtain ⟨t5, e5, n5, f5, g5⟩ := cc_ap (d := d + 39) (L := L) (xs := xs) (O := O) (c := c) (x := x5) n4 (by omega) (by omega)
    have G : ∀ k z, k ≠ 3 → ¬ (k = 2 ∧ z = 1) → t5 k z = s k z := fun k z a1 a2 => by rw [g5 k z a1 a2, g4 k z a1 a2, g3 k z a1 a2, g2 k z a1 a2, g1 k z a1 a2]
    have Gg : ∀ k z, k ≠ 3 → ¬ (k = 2 ∧ z = 1) → q_g t5 k z = q_g s k z := fun k z a1 a2 => by
      unfold q_g
      rw [G k z a1 a2]
    have F : ∀ z, 0 ≤ z → z < n + 20 → q_g t5 3 z = if n ≤ z then q_and (q_ushr (wd x1 x2 x3 x4 x5 (z - n)) (24 - 8 * ((z - n) % 4))) 255 else q_g s 3 z := by
      intro z z0 z1
      unfold wd
      rw [f5, f4, f3, f2, f1]
      by_cases c1 : z < n
      · rw [if_neg (by omega), if_neg (by omega), if_neg (by omega), if_neg (by omega), if_neg (by omega), if_neg (by omega)]
      · by_cases c2 : z < n + 4
        · rw [if_neg (by omega), if_neg (by omega), if_neg (by omega), if_neg (by omega), if_pos (by omega), if_pos (by omega), if_pos (by omega), show (z - n) % 4 = z - n by omega]
        · by_cases c3 : z < n + 8
          · rw [if_neg (by omega), if_neg (by omega), if_neg (by omega), if_pos (by omega), if_pos (by omega), if_neg (by omega), if_pos (by omega), show (z - n) % 4 = z - (n + 4) by omega]
          · by_cases c4 : z < n + 12
            · rw [if_neg (by omega), if_neg (by omega), if_pos (by omega), if_pos (by omega), if_neg (by omega), if_neg (by omega), if_pos (by omega), show (z - n) % 4 = z - (n + 4 + 4) by omega]
            · by_cases c5 : z < n + 16
              · rw [if_neg (by omega), if_pos (by omega), if_pos (by omega), if_neg (by omega), if_neg (by omega), if_neg (by omega), if_pos (by omega), show (z - n) % 4 = z - (n + 4 + 4 + 4) by omega]
              · rw [if_pos (by omega), if_pos (by omega), if_neg (by omega), if_neg (by omega), if_neg (by omega), if_neg (by omega), show (z - n) % 4 = z - (n + 4 + 4 + 4 + 4) by omega]
    -- the reference's loop
    obtain ⟨u, q1, q2, q3, q4⟩ := q_for (fun j (u : Value × (Nat → Int → Int32)) => EV (d + 40) 226 23 [.ref 285, .int (q_I (x1)), .int (q_I (x2)), .int (q_I (x3)), .int (q_I (x4)), .int (q_I (x5)), .int (q_I (j)), u.1] [] (q_h L xs (u.2) O c)) (fun j u => q_g u.2 285 8 = n + j ∧ (∀ z, q_g u.2 290 z = if n ≤ z ∧ z < n + j then q_and (q_ushr (wd x1 x2 x3 x4 x5 (z - n)) (24 - 8 * ((z - n) % 4))) 255 else q_g s 290 z) ∧ ∀ k z, k ≠ 290 → ¬ (k = 285 ∧ (z = 8 ∨ z = 0)) → u.2 k z = t5 k z) (lo := 0) (hi := 20) (by omega) (fun j u a1 a2 ⟨q2, q3, q4⟩ => by
      have hr : q_rm j 4 = j % 4 := by
        unfold q_rm
        rw [q_sg_id (by omega) (by omega), q_sg_id (by omega) (by omega), Int.tmod_eq_emod_of_nonneg a1]
      refine ⟨(.int (q_I (wd x1 x2 x3 x4 x5 j)), q_u (q_u u.2 290 (n + j) (q_and (q_ushr (wd x1 x2 x3 x4 x5 j) (24 - 8 * (j % 4))) 255)) 285 8 (n + j + 1)), ?_, ?_, fun z => ?_, fun k z k1 k2 => ?_⟩
      · rw [R_226_23]
        by_cases c2 : j < 4
        · simp (disch := first | omega | exact q_b_01 _) only [↓reduceIte, q_bk0, q_bk1, q_bk2, q_sg_b, q_b_0, q_b_n0, q_b_1, q_b_n1, q_b_T, q_b_F, q_sg_g, q_sg_sg, q_sg_xs, q_sg_id, q_gu_ne, q_gu_eq, q_g_fne, q_g_cpe, q_w_f, q_v_f, q_u_f, q_fn_f, q_cp_f, q_sg_pg, q_sg_hc, q_lt_t, q_lt_f, q_le_t, q_le_f, q_eq_t, q_eq_f, ne_eq, eq_self, Bool.false_eq_true, Bool.true_eq_false, not_true_eq_false, not_false_eq_true, true_and, and_true, false_and, and_false, true_or, or_true, false_or, or_false, if_true, if_false, Int.reduceAdd, Int.reduceMul, Int.reduceSub, Int.reduceNeg, wd, q2, hr, R_226_0, R_226_5, R_226_18, R_226_20, R_226_30, R_226_36, R_226_40, R_226_47, R_226_51, R_226_58, R_226_62, R_226_69, R_226_74, R_226_76, R_226_96, R_226_104, R_226_114, R_226_120]
        · by_cases c3 : j < 8
          · simp (disch := first | omega | exact q_b_01 _) only [↓reduceIte, q_bk0, q_bk1, q_bk2, q_sg_b, q_b_0, q_b_n0, q_b_1, q_b_n1, q_b_T, q_b_F, q_sg_g, q_sg_sg, q_sg_xs, q_sg_id, q_gu_ne, q_gu_eq, q_g_fne, q_g_cpe, q_w_f, q_v_f, q_u_f, q_fn_f, q_cp_f, q_sg_pg, q_sg_hc, q_lt_t, q_lt_f, q_le_t, q_le_f, q_eq_t, q_eq_f, ne_eq, eq_self, Bool.false_eq_true, Bool.true_eq_false, not_true_eq_false, not_false_eq_true, true_and, and_true, false_and, and_false, true_or, or_true, false_or, or_false, if_true, if_false, Int.reduceAdd, Int.reduceMul, Int.reduceSub, Int.reduceNeg, wd, q2, hr, R_226_0, R_226_5, R_226_18, R_226_20, R_226_30, R_226_36, R_226_40, R_226_47, R_226_51, R_226_58, R_226_62, R_226_69, R_226_74, R_226_76, R_226_96, R_226_104, R_226_114, R_226_120]
          · by_cases c4 : j < 12
            · simp (disch := first | omega | exact q_b_01 _) only [↓reduceIte, q_bk0, q_bk1, q_bk2, q_sg_b, q_b_0, q_b_n0, q_b_1, q_b_n1, q_b_T, q_b_F, q_sg_g, q_sg_sg, q_sg_xs, q_sg_id, q_gu_ne, q_gu_eq, q_g_fne, q_g_cpe, q_w_f, q_v_f, q_u_f, q_fn_f, q_cp_f, q_sg_pg, q_sg_hc, q_lt_t, q_lt_f, q_le_t, q_le_f, q_eq_t, q_eq_f, ne_eq, eq_self, Bool.false_eq_true, Bool.true_eq_false, not_true_eq_false, not_false_eq_true, true_and, and_true, false_and, and_false, true_or, or_true, false_or, or_false, if_true, if_false, Int.reduceAdd, Int.reduceMul, Int.reduceSub, Int.reduceNeg, wd, q2, hr, R_226_0, R_226_5, R_226_18, R_226_20, R_226_30, R_226_36, R_226_40, R_226_47, R_226_51, R_226_58, R_226_62, R_226_69, R_226_74, R_226_76, R_226_96, R_226_104, R_226_114, R_226_120]
            · by_cases c5 : j < 16
              · simp (disch := first | omega | exact q_b_01 _) only [↓reduceIte, q_bk0, q_bk1, q_bk2, q_sg_b, q_b_0, q_b_n0, q_b_1, q_b_n1, q_b_T, q_b_F, q_sg_g, q_sg_sg, q_sg_xs, q_sg_id, q_gu_ne, q_gu_eq, q_g_fne, q_g_cpe, q_w_f, q_v_f, q_u_f, q_fn_f, q_cp_f, q_sg_pg, q_sg_hc, q_lt_t, q_lt_f, q_le_t, q_le_f, q_eq_t, q_eq_f, ne_eq, eq_self, Bool.false_eq_true, Bool.true_eq_false, not_true_eq_false, not_false_eq_true, true_and, and_true, false_and, and_false, true_or, or_true, false_or, or_false, if_true, if_false, Int.reduceAdd, Int.reduceMul, Int.reduceSub, Int.reduceNeg, wd, q2, hr, R_226_0, R_226_5, R_226_18, R_226_20, R_226_30, R_226_36, R_226_40, R_226_47, R_226_51, R_226_58, R_226_62, R_226_69, R_226_74, R_226_76, R_226_96, R_226_104, R_226_114, R_226_120]
              · simp (disch := first | omega | exact q_b_01 _) only [↓reduceIte, q_bk0, q_bk1, q_bk2, q_sg_b, q_b_0, q_b_n0, q_b_1, q_b_n1, q_b_T, q_b_F, q_sg_g, q_sg_sg, q_sg_xs, q_sg_id, q_gu_ne, q_gu_eq, q_g_fne, q_g_cpe, q_w_f, q_v_f, q_u_f, q_fn_f, q_cp_f, q_sg_pg, q_sg_hc, q_lt_t, q_lt_f, q_le_t, q_le_f, q_eq_t, q_eq_f, ne_eq, eq_self, Bool.false_eq_true, Bool.true_eq_false, not_true_eq_false, not_false_eq_true, true_and, and_true, false_and, and_false, true_or, or_true, false_or, or_false, if_true, if_false, Int.reduceAdd, Int.reduceMul, Int.reduceSub, Int.reduceNeg, wd, q2, hr, R_226_0, R_226_5, R_226_18, R_226_20, R_226_30, R_226_36, R_226_40, R_226_47, R_226_51, R_226_58, R_226_62, R_226_69, R_226_74, R_226_76, R_226_96, R_226_104, R_226_114, R_226_120]
      · rw [q_gu_eq rfl, q_sg_id (by omega) (by omega)]
        omega
      · rw [q_gu_ne (by omega)]
        by_cases ez : z = n + j
        · have := q_and_255 (q_ushr (wd x1 x2 x3 x4 x5 j) (24 - 8 * (j % 4)))
          rw [q_gu_eq ez, if_pos (by omega), q_sg_id (by omega) (by omega), show z - n = j by omega]
        · rw [q_gu_ne (by omega), q3]
          by_cases c1 : n ≤ z ∧ z < n + j
          · rw [if_pos c1, if_pos (by omega)]
          · rw [if_neg c1, if_neg (by omega)]
      · show q_u (q_u u.2 290 _ _) 285 8 _ k z = _
        rw [q_u_n (by omega), q_u_n (by omega), q4 k z k1 k2]) (t := (.null, q_u t5 285 0 0)) (by
      refine ⟨?_, fun z => ?_, fun k z k1 k2 => ?_⟩
      · rw [q_gu_ne (by omega), Gg 285 8 (by omega) (by omega), T.1]
        omega
      · rw [q_gu_ne (by omega), Gg 290 z (by omega) (by omega), if_neg (by omega)]
      · show q_u t5 285 0 0 k z = _
        rw [q_u_n (by omega)])
    refine ⟨n + 20, t5, u.2, ?_, ?_, Big_tape B (fun k z hz hn => ?_) ?_⟩
    · simp (disch := first | omega | exact q_b_01 _) only [↓reduceIte, q_bk0, q_bk1, q_bk2, q_sg_b, q_b_0, q_b_n0, q_b_1, q_b_n1, q_b_T, q_b_F, q_sg_g, q_sg_sg, q_sg_xs, q_sg_id, q_gu_ne, q_gu_eq, q_g_fne, q_g_cpe, q_w_f, q_v_f, q_u_f, q_fn_f, q_cp_f, q_sg_pg, q_sg_hc, q_lt_t, q_lt_f, q_le_t, q_le_f, q_eq_t, q_eq_f, ne_eq, eq_self, Bool.false_eq_true, Bool.true_eq_false, not_true_eq_false, not_false_eq_true, true_and, and_true, false_and, and_false, true_or, or_true, false_or, or_false, if_true, if_false, Int.reduceAdd, Int.reduceMul, Int.reduceSub, Int.reduceNeg, hn, R_136_0, R_136_16, R_136_18, R_136_26, R_136_34, R_136_42, R_136_51, R_136_60, C_136_23, C_136_31, C_136_39, C_136_48, C_136_57, e1, e2, e3, e4, e5, n5]
      refine q_Ri ?_
      omega
    · simp (disch := first | omega | exact q_b_01 _) only [↓reduceIte, q_bk0, q_bk1, q_bk2, q_sg_b, q_b_0, q_b_n0, q_b_1, q_b_n1, q_b_T, q_b_F, q_sg_g, q_sg_sg, q_sg_xs, q_sg_id, q_gu_ne, q_gu_eq, q_g_fne, q_g_cpe, q_w_f, q_v_f, q_u_f, q_fn_f, q_cp_f, q_sg_pg, q_sg_hc, q_lt_t, q_lt_f, q_le_t, q_le_f, q_eq_t, q_eq_f, ne_eq, eq_self, Bool.false_eq_true, Bool.true_eq_false, not_true_eq_false, not_false_eq_true, true_and, and_true, false_and, and_false, true_or, or_true, false_or, or_false, if_true, if_false, Int.reduceAdd, Int.reduceMul, Int.reduceSub, Int.reduceNeg, Gg 285 8 (by omega) (by omega), T.1, R_226_0, R_226_5, R_226_18, R_226_20, R_226_30, R_226_36, R_226_40, R_226_47, R_226_51, R_226_58, R_226_62, R_226_69, R_226_74, R_226_76, R_226_96, R_226_104, R_226_114, R_226_120]
      refine Eq.trans q1 ?_
      rw [R_226_23]
      simp (disch := first | omega | exact q_b_01 _) only [↓reduceIte, q_bk0, q_bk1, q_bk2, q_sg_b, q_b_0, q_b_n0, q_b_1, q_b_n1, q_b_T, q_b_F, q_sg_g, q_sg_sg, q_sg_xs, q_sg_id, q_gu_ne, q_gu_eq, q_g_fne, q_g_cpe, q_w_f, q_v_f, q_u_f, q_fn_f, q_cp_f, q_sg_pg, q_sg_hc, q_lt_t, q_lt_f, q_le_t, q_le_f, q_eq_t, q_eq_f, ne_eq, eq_self, Bool.false_eq_true, Bool.true_eq_false, not_true_eq_false, not_false_eq_true, true_and, and_true, false_and, and_false, true_or, or_true, false_or, or_false, if_true, if_false, Int.reduceAdd, Int.reduceMul, Int.reduceSub, Int.reduceNeg, q2, R_226_0, R_226_5, R_226_18, R_226_20, R_226_30, R_226_36, R_226_40, R_226_47, R_226_51, R_226_58, R_226_62, R_226_69, R_226_74, R_226_76, R_226_96, R_226_104, R_226_114, R_226_120]
    · rw [q4 k z (by omega) (by unfold relz relc at hz; omega), G k z (by omega) (by omega)]
    · have e21 : q_g u.2 2 1 = n + 20 := by
        unfold q_g
        rw [q4 2 1 (by decide) (by omega)]
        show q_g t5 2 1 = _
        omega
      rw [q2, e21]
      refine ⟨rfl, by omega, by omega, fun k k0 k1 => ?_⟩
      have e3k : q_g u.2 3 k = q_g t5 3 k := by
        unfold q_g
        rw [q4 3 k (by decide) (by omega)]
      rw [e3k, F k k0 k1, q3]
      by_cases c1 : n ≤ k
      · have := q_and_255 (q_ushr (wd x1 x2 x3 x4 x5 (k - n)) (24 - 8 * ((k - n) % 4)))
        rw [if_pos c1, if_pos ⟨c1, k1⟩]
        exact ⟨rfl, this⟩
      · rw [if_neg c1, if_neg (by omega)]
        exact T.2.2.2 k k0 (by omega)
  · refine ⟨-1, s, q_u s 285 0 0, ?_, ?_, Big_sm B (Sm_u Sm_rfl (by unfold relz relc; omega))⟩
    · simp (disch := first | omega | exact q_b_01 _) only [↓reduceIte, q_bk0, q_bk1, q_bk2, q_sg_b, q_b_0, q_b_n0, q_b_1, q_b_n1, q_b_T, q_b_F, q_sg_g, q_sg_sg, q_sg_xs, q_sg_id, q_gu_ne, q_gu_eq, q_g_fne, q_g_cpe, q_w_f, q_v_f, q_u_f, q_fn_f, q_cp_f, q_sg_pg, q_sg_hc, q_lt_t, q_lt_f, q_le_t, q_le_f, q_eq_t, q_eq_f, ne_eq, eq_self, Bool.false_eq_true, Bool.true_eq_false, not_true_eq_false, not_false_eq_true, true_and, and_true, false_and, and_false, true_or, or_true, false_or, or_false, if_true, if_false, Int.reduceAdd, Int.reduceMul, Int.reduceSub, Int.reduceNeg, hn, R_136_0, R_136_16, R_136_18, R_136_26, R_136_34, R_136_42, R_136_51, R_136_60, C_136_23, C_136_31, C_136_39, C_136_48, C_136_57]
    · simp (disch := first | omega | exact q_b_01 _) only [↓reduceIte, q_bk0, q_bk1, q_bk2, q_sg_b, q_b_0, q_b_n0, q_b_1, q_b_n1, q_b_T, q_b_F, q_sg_g, q_sg_sg, q_sg_xs, q_sg_id, q_gu_ne, q_gu_eq, q_g_fne, q_g_cpe, q_w_f, q_v_f, q_u_f, q_fn_f, q_cp_f, q_sg_pg, q_sg_hc, q_lt_t, q_lt_f, q_le_t, q_le_f, q_eq_t, q_eq_f, ne_eq, eq_self, Bool.false_eq_true, Bool.true_eq_false, not_true_eq_false, not_false_eq_true, true_and, and_true, false_and, and_false, true_or, or_true, false_or, or_false, if_true, if_false, Int.reduceAdd, Int.reduceMul, Int.reduceSub, Int.reduceNeg, T.1, R_226_0, R_226_5, R_226_18, R_226_20, R_226_30, R_226_36, R_226_40, R_226_47, R_226_51, R_226_58, R_226_62, R_226_69, R_226_74, R_226_76, R_226_96, R_226_104, R_226_114, R_226_120]
end OP6
