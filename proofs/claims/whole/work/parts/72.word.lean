/-! THE CLASS: which word stands there -/
theorem wix_y {T : Int → Int} {b e i : Int} {w : List Int} {r : List (List Int)} (h : e - b = (w.length : Int) ∧ eqw T b w = true) : wix T b e i (w :: r) = i := by
  show (if (decide (e - b = (w.length : Int)) && eqw T b w) = true then i else _) = i
  rw [if_pos]
  rw [Bool.and_eq_true, decide_eq_true_iff]
  exact h
theorem wix_n {T : Int → Int} {b e i : Int} {w : List Int} {r : List (List Int)} (h : ¬ (e - b = (w.length : Int) ∧ eqw T b w = true)) : wix T b e i (w :: r) = wix T b e (i + 1) r := by
  show (if (decide (e - b = (w.length : Int)) && eqw T b w) = true then i else _) = _
  rw [if_neg]
  rw [Bool.and_eq_true, decide_eq_true_iff]
  exact h
section WRD
variable {d L : Nat} {xs : Nat → Int32} {s : Nat → Int → Int32} {O : Nat → Int64} {c : Bool × Nat × Nat} {T : Int → Int}
theorem sm_0 {b : Int} (b0 : 0 ≤ b) (b1 : b + 3 ≤ 400) (hT : ∀ j, b ≤ j → j < b + 3 → q_g s 3 j = T j) : EV (d + 8) 117 0 [.ref 2, .int (q_I b), .int (q_I 0), .int (q_I 3), .null] [] (q_h L xs s O c) = some (.inl (some (.int (q_I (q_b (eqw T b [112, 117, 116] = true))))), q_h L xs (s) O c) := by
  have t0 : q_g s 3 (b + 0) = T b := by
    rw [hT (b + 0) (by omega) (by omega)]
    rw [Int.add_zero]
  have t1 : q_g s 3 (b + 1) = T (b + 1) := by
    rw [hT (b + 1) (by omega) (by omega)]
  have t2 : q_g s 3 (b + 2) = T (b + 1 + 1) := by
    rw [hT (b + 2) (by omega) (by omega)]
    rw [show b + 1 + 1 = b + 2 by omega]
  have r0 := q_g_rg s 3 (b + 0)
  rw [t0] at r0
  have r1 := q_g_rg s 3 (b + 1)
  rw [t1] at r1
  have r2 := q_g_rg s 3 (b + 2)
  rw [t2] at r2
  by_cases c0 : T b = 112
  · skip
    by_cases c1 : T (b + 1) = 117
    · skip
      by_cases c2 : T (b + 1 + 1) = 116
      · simp (disch := first | omega | exact q_b_01 _) only [↓reduceIte, q_bk0, q_bk1, q_bk2, q_sg_b, q_b_0, q_b_n0, q_b_1, q_b_n1, q_b_T, q_b_F, q_sg_g, q_sg_sg, q_sg_xs, q_sg_id, q_gu_ne, q_gu_eq, q_g_fne, q_g_cpe, q_w_f, q_v_f, q_u_f, q_fn_f, q_cp_f, q_sg_pg, q_sg_hc, q_lt_t, q_lt_f, q_le_t, q_le_f, q_eq_t, q_eq_f, ne_eq, eq_self, Bool.false_eq_true, Bool.true_eq_false, not_true_eq_false, not_false_eq_true, true_and, and_true, false_and, and_false, true_or, or_true, false_or, or_false, if_true, if_false, Int.reduceAdd, Int.reduceMul, Int.reduceSub, Int.reduceNeg, t0, t1, t2, c0, c1, c2, eqw, decide_true, Bool.and_self, Bool.and_true, Bool.true_and, R_117_0, R_117_3, R_117_9, R_117_18, R_117_27, R_117_30, R_117_32, R_117_38, CH_117_24_0, CH_117_24_1, CH_117_24_2]
      · simp (disch := first | omega | exact q_b_01 _) only [↓reduceIte, q_bk0, q_bk1, q_bk2, q_sg_b, q_b_0, q_b_n0, q_b_1, q_b_n1, q_b_T, q_b_F, q_sg_g, q_sg_sg, q_sg_xs, q_sg_id, q_gu_ne, q_gu_eq, q_g_fne, q_g_cpe, q_w_f, q_v_f, q_u_f, q_fn_f, q_cp_f, q_sg_pg, q_sg_hc, q_lt_t, q_lt_f, q_le_t, q_le_f, q_eq_t, q_eq_f, ne_eq, eq_self, Bool.false_eq_true, Bool.true_eq_false, not_true_eq_false, not_false_eq_true, true_and, and_true, false_and, and_false, true_or, or_true, false_or, or_false, if_true, if_false, Int.reduceAdd, Int.reduceMul, Int.reduceSub, Int.reduceNeg, t0, t1, t2, c0, c1, c2, eqw, decide_true, decide_false, Bool.false_and, Bool.and_false, Bool.and_true, Bool.true_and, R_117_0, R_117_3, R_117_9, R_117_18, R_117_27, R_117_30, R_117_32, R_117_38, CH_117_24_0, CH_117_24_1, CH_117_24_2]
    · simp (disch := first | omega | exact q_b_01 _) only [↓reduceIte, q_bk0, q_bk1, q_bk2, q_sg_b, q_b_0, q_b_n0, q_b_1, q_b_n1, q_b_T, q_b_F, q_sg_g, q_sg_sg, q_sg_xs, q_sg_id, q_gu_ne, q_gu_eq, q_g_fne, q_g_cpe, q_w_f, q_v_f, q_u_f, q_fn_f, q_cp_f, q_sg_pg, q_sg_hc, q_lt_t, q_lt_f, q_le_t, q_le_f, q_eq_t, q_eq_f, ne_eq, eq_self, Bool.false_eq_true, Bool.true_eq_false, not_true_eq_false, not_false_eq_true, true_and, and_true, false_and, and_false, true_or, or_true, false_or, or_false, if_true, if_false, Int.reduceAdd, Int.reduceMul, Int.reduceSub, Int.reduceNeg, t0, t1, c0, c1, eqw, decide_true, decide_false, Bool.false_and, Bool.and_false, Bool.and_true, Bool.true_and, R_117_0, R_117_3, R_117_9, R_117_18, R_117_27, R_117_30, R_117_32, R_117_38, CH_117_24_0, CH_117_24_1]
  · simp (disch := first | omega | exact q_b_01 _) only [↓reduceIte, q_bk0, q_bk1, q_bk2, q_sg_b, q_b_0, q_b_n0, q_b_1, q_b_n1, q_b_T, q_b_F, q_sg_g, q_sg_sg, q_sg_xs, q_sg_id, q_gu_ne, q_gu_eq, q_g_fne, q_g_cpe, q_w_f, q_v_f, q_u_f, q_fn_f, q_cp_f, q_sg_pg, q_sg_hc, q_lt_t, q_lt_f, q_le_t, q_le_f, q_eq_t, q_eq_f, ne_eq, eq_self, Bool.false_eq_true, Bool.true_eq_false, not_true_eq_false, not_false_eq_true, true_and, and_true, false_and, and_false, true_or, or_true, false_or, or_false, if_true, if_false, Int.reduceAdd, Int.reduceMul, Int.reduceSub, Int.reduceNeg, t0, c0, eqw, decide_true, decide_false, Bool.false_and, Bool.and_false, Bool.and_true, Bool.true_and, R_117_0, R_117_3, R_117_9, R_117_18, R_117_27, R_117_30, R_117_32, R_117_38, CH_117_24_0]
theorem ws_0 {b e : Int} (b0 : 0 ≤ b) (be : b < e) (e1 : e ≤ 400) (hT : ∀ j, b ≤ j → j < e → q_g s 3 j = T j) : EV (d + 9) 116 8 [.ref 2, .int (q_I (b)), .int (q_I (e)), .int (q_I (0)), .int (q_I (0)), .int (q_I (0))] [] (q_h L xs s O c) = if e - b = 3 ∧ eqw T b [112, 117, 116] = true then some (.inl (some (.int (q_I (0)))), q_h L xs (s) O c) else EV (d + 9) 116 8 [.ref 2, .int (q_I (b)), .int (q_I (e)), .int (q_I (1)), .int (q_I (4)), .int (q_I (4))] [] (q_h L xs s O c) := by
  rw [R_116_8]
  simp (disch := first | omega | exact q_b_01 _) only [↓reduceIte, q_bk0, q_bk1, q_bk2, q_sg_b, q_b_0, q_b_n0, q_b_1, q_b_n1, q_b_T, q_b_F, q_sg_g, q_sg_sg, q_sg_xs, q_sg_id, q_gu_ne, q_gu_eq, q_g_fne, q_g_cpe, q_w_f, q_v_f, q_u_f, q_fn_f, q_cp_f, q_sg_pg, q_sg_hc, q_lt_t, q_lt_f, q_le_t, q_le_f, q_eq_t, q_eq_f, ne_eq, eq_self, Bool.false_eq_true, Bool.true_eq_false, not_true_eq_false, not_false_eq_true, true_and, and_true, false_and, and_false, true_or, or_true, false_or, or_false, if_true, if_false, Int.reduceAdd, Int.reduceMul, Int.reduceSub, Int.reduceNeg, R_116_0, R_116_15, R_116_18, R_116_25, R_116_28, R_116_35, R_116_40, R_116_51, R_116_63, R_116_66, R_116_68, R_116_77, R_116_83, C_116_60, LN_116_12, LN_116_22, CH_116_32_0]
  rw [R_116_8]
  simp (disch := first | omega | exact q_b_01 _) only [↓reduceIte, q_bk0, q_bk1, q_bk2, q_sg_b, q_b_0, q_b_n0, q_b_1, q_b_n1, q_b_T, q_b_F, q_sg_g, q_sg_sg, q_sg_xs, q_sg_id, q_gu_ne, q_gu_eq, q_g_fne, q_g_cpe, q_w_f, q_v_f, q_u_f, q_fn_f, q_cp_f, q_sg_pg, q_sg_hc, q_lt_t, q_lt_f, q_le_t, q_le_f, q_eq_t, q_eq_f, ne_eq, eq_self, Bool.false_eq_true, Bool.true_eq_false, not_true_eq_false, not_false_eq_true, true_and, and_true, false_and, and_false, true_or, or_true, false_or, or_false, if_true, if_false, Int.reduceAdd, Int.reduceMul, Int.reduceSub, Int.reduceNeg, R_116_0, R_116_15, R_116_18, R_116_25, R_116_28, R_116_35, R_116_40, R_116_51, R_116_63, R_116_66, R_116_68, R_116_77, R_116_83, C_116_60, LN_116_12, LN_116_22, CH_116_32_1]
  rw [R_116_8]
  simp (disch := first | omega | exact q_b_01 _) only [↓reduceIte, q_bk0, q_bk1, q_bk2, q_sg_b, q_b_0, q_b_n0, q_b_1, q_b_n1, q_b_T, q_b_F, q_sg_g, q_sg_sg, q_sg_xs, q_sg_id, q_gu_ne, q_gu_eq, q_g_fne, q_g_cpe, q_w_f, q_v_f, q_u_f, q_fn_f, q_cp_f, q_sg_pg, q_sg_hc, q_lt_t, q_lt_f, q_le_t, q_le_f, q_eq_t, q_eq_f, ne_eq, eq_self, Bool.false_eq_true, Bool.true_eq_false, not_true_eq_false, not_false_eq_true, true_and, and_true, false_and, and_false, true_or, or_true, false_or, or_false, if_true, if_false, Int.reduceAdd, Int.reduceMul, Int.reduceSub, Int.reduceNeg, R_116_0, R_116_15, R_116_18, R_116_25, R_116_28, R_116_35, R_116_40, R_116_51, R_116_63, R_116_66, R_116_68, R_116_77, R_116_83, C_116_60, LN_116_12, LN_116_22, CH_116_32_2]
  rw [R_116_8]
  by_cases c1 : e - b = 3
  · have sm := sm_0 (d := d) (L := L) (xs := xs) (s := s) (O := O) (c := c) (T := T) b0 (by omega) (fun j h1 h2 => hT j h1 (by omega))
    by_cases c2 : eqw T b [112, 117, 116] = true
    · rw [if_pos ⟨c1, c2⟩]
      rw [q_bt c2] at sm
      simp (disch := first | omega | exact q_b_01 _) only [↓reduceIte, q_bk0, q_bk1, q_bk2, q_sg_b, q_b_0, q_b_n0, q_b_1, q_b_n1, q_b_T, q_b_F, q_sg_g, q_sg_sg, q_sg_xs, q_sg_id, q_gu_ne, q_gu_eq, q_g_fne, q_g_cpe, q_w_f, q_v_f, q_u_f, q_fn_f, q_cp_f, q_sg_pg, q_sg_hc, q_lt_t, q_lt_f, q_le_t, q_le_f, q_eq_t, q_eq_f, ne_eq, eq_self, Bool.false_eq_true, Bool.true_eq_false, not_true_eq_false, not_false_eq_true, true_and, and_true, false_and, and_false, true_or, or_true, false_or, or_false, if_true, if_false, Int.reduceAdd, Int.reduceMul, Int.reduceSub, Int.reduceNeg, sm, R_116_0, R_116_15, R_116_18, R_116_25, R_116_28, R_116_35, R_116_40, R_116_51, R_116_63, R_116_66, R_116_68, R_116_77, R_116_83, C_116_60, LN_116_12, LN_116_22, CH_116_32_3]
    · rw [if_neg (fun h => c2 h.2)]
      rw [q_bf c2] at sm
      simp (disch := first | omega | exact q_b_01 _) only [↓reduceIte, q_bk0, q_bk1, q_bk2, q_sg_b, q_b_0, q_b_n0, q_b_1, q_b_n1, q_b_T, q_b_F, q_sg_g, q_sg_sg, q_sg_xs, q_sg_id, q_gu_ne, q_gu_eq, q_g_fne, q_g_cpe, q_w_f, q_v_f, q_u_f, q_fn_f, q_cp_f, q_sg_pg, q_sg_hc, q_lt_t, q_lt_f, q_le_t, q_le_f, q_eq_t, q_eq_f, ne_eq, eq_self, Bool.false_eq_true, Bool.true_eq_false, not_true_eq_false, not_false_eq_true, true_and, and_true, false_and, and_false, true_or, or_true, false_or, or_false, if_true, if_false, Int.reduceAdd, Int.reduceMul, Int.reduceSub, Int.reduceNeg, sm, R_116_0, R_116_15, R_116_18, R_116_25, R_116_28, R_116_35, R_116_40, R_116_51, R_116_63, R_116_66, R_116_68, R_116_77, R_116_83, C_116_60, LN_116_12, LN_116_22, CH_116_32_3]
  · rw [if_neg (fun h => c1 h.1)]
    simp (disch := first | omega | exact q_b_01 _) only [↓reduceIte, q_bk0, q_bk1, q_bk2, q_sg_b, q_b_0, q_b_n0, q_b_1, q_b_n1, q_b_T, q_b_F, q_sg_g, q_sg_sg, q_sg_xs, q_sg_id, q_gu_ne, q_gu_eq, q_g_fne, q_g_cpe, q_w_f, q_v_f, q_u_f, q_fn_f, q_cp_f, q_sg_pg, q_sg_hc, q_lt_t, q_lt_f, q_le_t, q_le_f, q_eq_t, q_eq_f, ne_eq, eq_self, Bool.false_eq_true, Bool.true_eq_false, not_true_eq_false, not_false_eq_true, true_and, and_true, false_and, and_false, true_or, or_true, false_or, or_false, if_true, if_false, Int.reduceAdd, Int.reduceMul, Int.reduceSub, Int.reduceNeg, R_116_0, R_116_15, R_116_18, R_116_25, R_116_28, R_116_35, R_116_40, R_116_51, R_116_63, R_116_66, R_116_68, R_116_77, R_116_83, C_116_60, LN_116_12, LN_116_22, CH_116_32_3]
theorem sm_1 {b : Int} (b0 : 0 ≤ b) (b1 : b + 4 ≤ 400) (hT : ∀ j, b ≤ j → j < b + 4 → q_g s 3 j = T j) : EV (d + 8) 117 0 [.ref 2, .int (q_I b), .int (q_I 4), .int (q_I 4), .null] [] (q_h L xs s O c) = some (.inl (some (.int (q_I (q_b (eqw T b [100, 114, 111, 112] = true))))), q_h L xs (s) O c) := by
  have t0 : q_g s 3 (b + 0) = T b := by
    rw [hT (b + 0) (by omega) (by omega)]
    rw [Int.add_zero]
  have t1 : q_g s 3 (b + 1) = T (b + 1) := by
    rw [hT (b + 1) (by omega) (by omega)]
  have t2 : q_g s 3 (b + 2) = T (b + 1 + 1) := by
    rw [hT (b + 2) (by omega) (by omega)]
    rw [show b + 1 + 1 = b + 2 by omega]
  have t3 : q_g s 3 (b + 3) = T (b + 1 + 1 + 1) := by
    rw [hT (b + 3) (by omega) (by omega)]
    rw [show b + 1 + 1 + 1 = b + 3 by omega]
  have r0 := q_g_rg s 3 (b + 0)
  rw [t0] at r0
  have r1 := q_g_rg s 3 (b + 1)
  rw [t1] at r1
  have r2 := q_g_rg s 3 (b + 2)
  rw [t2] at r2
  have r3 := q_g_rg s 3 (b + 3)
  rw [t3] at r3
  by_cases c0 : T b = 100
  · skip
    by_cases c1 : T (b + 1) = 114
    · skip
      by_cases c2 : T (b + 1 + 1) = 111
      · skip
        by_cases c3 : T (b + 1 + 1 + 1) = 112
        · simp (disch := first | omega | exact q_b_01 _) only [↓reduceIte, q_bk0, q_bk1, q_bk2, q_sg_b, q_b_0, q_b_n0, q_b_1, q_b_n1, q_b_T, q_b_F, q_sg_g, q_sg_sg, q_sg_xs, q_sg_id, q_gu_ne, q_gu_eq, q_g_fne, q_g_cpe, q_w_f, q_v_f, q_u_f, q_fn_f, q_cp_f, q_sg_pg, q_sg_hc, q_lt_t, q_lt_f, q_le_t, q_le_f, q_eq_t, q_eq_f, ne_eq, eq_self, Bool.false_eq_true, Bool.true_eq_false, not_true_eq_false, not_false_eq_true, true_and, and_true, false_and, and_false, true_or, or_true, false_or, or_false, if_true, if_false, Int.reduceAdd, Int.reduceMul, Int.reduceSub, Int.reduceNeg, t0, t1, t2, t3, c0, c1, c2, c3, eqw, decide_true, Bool.and_self, Bool.and_true, Bool.true_and, R_117_0, R_117_3, R_117_9, R_117_18, R_117_27, R_117_30, R_117_32, R_117_38, CH_117_24_4, CH_117_24_5, CH_117_24_6, CH_117_24_7]
        · simp (disch := first | omega | exact q_b_01 _) only [↓reduceIte, q_bk0, q_bk1, q_bk2, q_sg_b, q_b_0, q_b_n0, q_b_1, q_b_n1, q_b_T, q_b_F, q_sg_g, q_sg_sg, q_sg_xs, q_sg_id, q_gu_ne, q_gu_eq, q_g_fne, q_g_cpe, q_w_f, q_v_f, q_u_f, q_fn_f, q_cp_f, q_sg_pg, q_sg_hc, q_lt_t, q_lt_f, q_le_t, q_le_f, q_eq_t, q_eq_f, ne_eq, eq_self, Bool.false_eq_true, Bool.true_eq_false, not_true_eq_false, not_false_eq_true, true_and, and_true, false_and, and_false, true_or, or_true, false_or, or_false, if_true, if_false, Int.reduceAdd, Int.reduceMul, Int.reduceSub, Int.reduceNeg, t0, t1, t2, t3, c0, c1, c2, c3, eqw, decide_true, decide_false, Bool.false_and, Bool.and_false, Bool.and_true, Bool.true_and, R_117_0, R_117_3, R_117_9, R_117_18, R_117_27, R_117_30, R_117_32, R_117_38, CH_117_24_4, CH_117_24_5, CH_117_24_6, CH_117_24_7]
      · simp (disch := first | omega | exact q_b_01 _) only [↓reduceIte, q_bk0, q_bk1, q_bk2, q_sg_b, q_b_0, q_b_n0, q_b_1, q_b_n1, q_b_T, q_b_F, q_sg_g, q_sg_sg, q_sg_xs, q_sg_id, q_gu_ne, q_gu_eq, q_g_fne, q_g_cpe, q_w_f, q_v_f, q_u_f, q_fn_f, q_cp_f, q_sg_pg, q_sg_hc, q_lt_t, q_lt_f, q_le_t, q_le_f, q_eq_t, q_eq_f, ne_eq, eq_self, Bool.false_eq_true, Bool.true_eq_false, not_true_eq_false, not_false_eq_true, true_and, and_true, false_and, and_false, true_or, or_true, false_or, or_false, if_true, if_false, Int.reduceAdd, Int.reduceMul, Int.reduceSub, Int.reduceNeg, t0, t1, t2, c0, c1, c2, eqw, decide_true, decide_false, Bool.false_and, Bool.and_false, Bool.and_true, Bool.true_and, R_117_0, R_117_3, R_117_9, R_117_18, R_117_27, R_117_30, R_117_32, R_117_38, CH_117_24_4, CH_117_24_5, CH_117_24_6]
    · simp (disch := first | omega | exact q_b_01 _) only [↓reduceIte, q_bk0, q_bk1, q_bk2, q_sg_b, q_b_0, q_b_n0, q_b_1, q_b_n1, q_b_T, q_b_F, q_sg_g, q_sg_sg, q_sg_xs, q_sg_id, q_gu_ne, q_gu_eq, q_g_fne, q_g_cpe, q_w_f, q_v_f, q_u_f, q_fn_f, q_cp_f, q_sg_pg, q_sg_hc, q_lt_t, q_lt_f, q_le_t, q_le_f, q_eq_t, q_eq_f, ne_eq, eq_self, Bool.false_eq_true, Bool.true_eq_false, not_true_eq_false, not_false_eq_true, true_and, and_true, false_and, and_false, true_or, or_true, false_or, or_false, if_true, if_false, Int.reduceAdd, Int.reduceMul, Int.reduceSub, Int.reduceNeg, t0, t1, c0, c1, eqw, decide_true, decide_false, Bool.false_and, Bool.and_false, Bool.and_true, Bool.true_and, R_117_0, R_117_3, R_117_9, R_117_18, R_117_27, R_117_30, R_117_32, R_117_38, CH_117_24_4, CH_117_24_5]
  · simp (disch := first | omega | exact q_b_01 _) only [↓reduceIte, q_bk0, q_bk1, q_bk2, q_sg_b, q_b_0, q_b_n0, q_b_1, q_b_n1, q_b_T, q_b_F, q_sg_g, q_sg_sg, q_sg_xs, q_sg_id, q_gu_ne, q_gu_eq, q_g_fne, q_g_cpe, q_w_f, q_v_f, q_u_f, q_fn_f, q_cp_f, q_sg_pg, q_sg_hc, q_lt_t, q_lt_f, q_le_t, q_le_f, q_eq_t, q_eq_f, ne_eq, eq_self, Bool.false_eq_true, Bool.true_eq_false, not_true_eq_false, not_false_eq_true, true_and, and_true, false_and, and_false, true_or, or_true, false_or, or_false, if_true, if_false, Int.reduceAdd, Int.reduceMul, Int.reduceSub, Int.reduceNeg, t0, c0, eqw, decide_true, decide_false, Bool.false_and, Bool.and_false, Bool.and_true, Bool.true_and, R_117_0, R_117_3, R_117_9, R_117_18, R_117_27, R_117_30, R_117_32, R_117_38, CH_117_24_4]
theorem ws_1 {b e : Int} (b0 : 0 ≤ b) (be : b < e) (e1 : e ≤ 400) (hT : ∀ j, b ≤ j → j < e → q_g s 3 j = T j) : EV (d + 9) 116 8 [.ref 2, .int (q_I (b)), .int (q_I (e)), .int (q_I (1)), .int (q_I (4)), .int (q_I (4))] [] (q_h L xs s O c) = if e - b = 4 ∧ eqw T b [100, 114, 111, 112] = true then some (.inl (some (.int (q_I (1)))), q_h L xs (s) O c) else EV (d + 9) 116 8 [.ref 2, .int (q_I (b)), .int (q_I (e)), .int (q_I (2)), .int (q_I (9)), .int (q_I (9))] [] (q_h L xs s O c) := by
  rw [R_116_8]
  simp (disch := first | omega | exact q_b_01 _) only [↓reduceIte, q_bk0, q_bk1, q_bk2, q_sg_b, q_b_0, q_b_n0, q_b_1, q_b_n1, q_b_T, q_b_F, q_sg_g, q_sg_sg, q_sg_xs, q_sg_id, q_gu_ne, q_gu_eq, q_g_fne, q_g_cpe, q_w_f, q_v_f, q_u_f, q_fn_f, q_cp_f, q_sg_pg, q_sg_hc, q_lt_t, q_lt_f, q_le_t, q_le_f, q_eq_t, q_eq_f, ne_eq, eq_self, Bool.false_eq_true, Bool.true_eq_false, not_true_eq_false, not_false_eq_true, true_and, and_true, false_and, and_false, true_or, or_true, false_or, or_false, if_true, if_false, Int.reduceAdd, Int.reduceMul, Int.reduceSub, Int.reduceNeg, R_116_0, R_116_15, R_116_18, R_116_25, R_116_28, R_116_35, R_116_40, R_116_51, R_116_63, R_116_66, R_116_68, R_116_77, R_116_83, C_116_60, LN_116_12, LN_116_22, CH_116_32_4]
  rw [R_116_8]
  simp (disch := first | omega | exact q_b_01 _) only [↓reduceIte, q_bk0, q_bk1, q_bk2, q_sg_b, q_b_0, q_b_n0, q_b_1, q_b_n1, q_b_T, q_b_F, q_sg_g, q_sg_sg, q_sg_xs, q_sg_id, q_gu_ne, q_gu_eq, q_g_fne, q_g_cpe, q_w_f, q_v_f, q_u_f, q_fn_f, q_cp_f, q_sg_pg, q_sg_hc, q_lt_t, q_lt_f, q_le_t, q_le_f, q_eq_t, q_eq_f, ne_eq, eq_self, Bool.false_eq_true, Bool.true_eq_false, not_true_eq_false, not_false_eq_true, true_and, and_true, false_and, and_false, true_or, or_true, false_or, or_false, if_true, if_false, Int.reduceAdd, Int.reduceMul, Int.reduceSub, Int.reduceNeg, R_116_0, R_116_15, R_116_18, R_116_25, R_116_28, R_116_35, R_116_40, R_116_51, R_116_63, R_116_66, R_116_68, R_116_77, R_116_83, C_116_60, LN_116_12, LN_116_22, CH_116_32_5]
  rw [R_116_8]
  simp (disch := first | omega | exact q_b_01 _) only [↓reduceIte, q_bk0, q_bk1, q_bk2, q_sg_b, q_b_0, q_b_n0, q_b_1, q_b_n1, q_b_T, q_b_F, q_sg_g, q_sg_sg, q_sg_xs, q_sg_id, q_gu_ne, q_gu_eq, q_g_fne, q_g_cpe, q_w_f, q_v_f, q_u_f, q_fn_f, q_cp_f, q_sg_pg, q_sg_hc, q_lt_t, q_lt_f, q_le_t, q_le_f, q_eq_t, q_eq_f, ne_eq, eq_self, Bool.false_eq_true, Bool.true_eq_false, not_true_eq_false, not_false_eq_true, true_and, and_true, false_and, and_false, true_or, or_true, false_or, or_false, if_true, if_false, Int.reduceAdd, Int.reduceMul, Int.reduceSub, Int.reduceNeg, R_116_0, R_116_15, R_116_18, R_116_25, R_116_28, R_116_35, R_116_40, R_116_51, R_116_63, R_116_66, R_116_68, R_116_77, R_116_83, C_116_60, LN_116_12, LN_116_22, CH_116_32_6]
  rw [R_116_8]
  simp (disch := first | omega | exact q_b_01 _) only [↓reduceIte, q_bk0, q_bk1, q_bk2, q_sg_b, q_b_0, q_b_n0, q_b_1, q_b_n1, q_b_T, q_b_F, q_sg_g, q_sg_sg, q_sg_xs, q_sg_id, q_gu_ne, q_gu_eq, q_g_fne, q_g_cpe, q_w_f, q_v_f, q_u_f, q_fn_f, q_cp_f, q_sg_pg, q_sg_hc, q_lt_t, q_lt_f, q_le_t, q_le_f, q_eq_t, q_eq_f, ne_eq, eq_self, Bool.false_eq_true, Bool.true_eq_false, not_true_eq_false, not_false_eq_true, true_and, and_true, false_and, and_false, true_or, or_true, false_or, or_false, if_true, if_false, Int.reduceAdd, Int.reduceMul, Int.reduceSub, Int.reduceNeg, R_116_0, R_116_15, R_116_18, R_116_25, R_116_28, R_116_35, R_116_40, R_116_51, R_116_63, R_116_66, R_116_68, R_116_77, R_116_83, C_116_60, LN_116_12, LN_116_22, CH_116_32_7]
  rw [R_116_8]
  by_cases c1 : e - b = 4
  · have sm := sm_1 (d := d) (L := L) (xs := xs) (s := s) (O := O) (c := c) (T := T) b0 (by omega) (fun j h1 h2 => hT j h1 (by omega))
    by_cases c2 : eqw T b [100, 114, 111, 112] = true
    · rw [if_pos ⟨c1, c2⟩]
      rw [q_bt c2] at sm
      simp (disch := first | omega | exact q_b_01 _) only [↓reduceIte, q_bk0, q_bk1, q_bk2, q_sg_b, q_b_0, q_b_n0, q_b_1, q_b_n1, q_b_T, q_b_F, q_sg_g, q_sg_sg, q_sg_xs, q_sg_id, q_gu_ne, q_gu_eq, q_g_fne, q_g_cpe, q_w_f, q_v_f, q_u_f, q_fn_f, q_cp_f, q_sg_pg, q_sg_hc, q_lt_t, q_lt_f, q_le_t, q_le_f, q_eq_t, q_eq_f, ne_eq, eq_self, Bool.false_eq_true, Bool.true_eq_false, not_true_eq_false, not_false_eq_true, true_and, and_true, false_and, and_false, true_or, or_true, false_or, or_false, if_true, if_false, Int.reduceAdd, Int.reduceMul, Int.reduceSub, Int.reduceNeg, sm, R_116_0, R_116_15, R_116_18, R_116_25, R_116_28, R_116_35, R_116_40, R_116_51, R_116_63, R_116_66, R_116_68, R_116_77, R_116_83, C_116_60, LN_116_12, LN_116_22, CH_116_32_8]
    · rw [if_neg (fun h => c2 h.2)]
      rw [q_bf c2] at sm
      simp (disch := first | omega | exact q_b_01 _) only [↓reduceIte, q_bk0, q_bk1, q_bk2, q_sg_b, q_b_0, q_b_n0, q_b_1, q_b_n1, q_b_T, q_b_F, q_sg_g, q_sg_sg, q_sg_xs, q_sg_id, q_gu_ne, q_gu_eq, q_g_fne, q_g_cpe, q_w_f, q_v_f, q_u_f, q_fn_f, q_cp_f, q_sg_pg, q_sg_hc, q_lt_t, q_lt_f, q_le_t, q_le_f, q_eq_t, q_eq_f, ne_eq, eq_self, Bool.false_eq_true, Bool.true_eq_false, not_true_eq_false, not_false_eq_true, true_and, and_true, false_and, and_false, true_or, or_true, false_or, or_false, if_true, if_false, Int.reduceAdd, Int.reduceMul, Int.reduceSub, Int.reduceNeg, sm, R_116_0, R_116_15, R_116_18, R_116_25, R_116_28, R_116_35, R_116_40, R_116_51, R_116_63, R_116_66, R_116_68, R_116_77, R_116_83, C_116_60, LN_116_12, LN_116_22, CH_116_32_8]
  · rw [if_neg (fun h => c1 h.1)]
    simp (disch := first | omega | exact q_b_01 _) only [↓reduceIte, q_bk0, q_bk1, q_bk2, q_sg_b, q_b_0, q_b_n0, q_b_1, q_b_n1, q_b_T, q_b_F, q_sg_g, q_sg_sg, q_sg_xs, q_sg_id, q_gu_ne, q_gu_eq, q_g_fne, q_g_cpe, q_w_f, q_v_f, q_u_f, q_fn_f, q_cp_f, q_sg_pg, q_sg_hc, q_lt_t, q_lt_f, q_le_t, q_le_f, q_eq_t, q_eq_f, ne_eq, eq_self, Bool.false_eq_true, Bool.true_eq_false, not_true_eq_false, not_false_eq_true, true_and, and_true, false_and, and_false, true_or, or_true, false_or, or_false, if_true, if_false, Int.reduceAdd, Int.reduceMul, Int.reduceSub, Int.reduceNeg, R_116_0, R_116_15, R_116_18, R_116_25, R_116_28, R_116_35, R_116_40, R_116_51, R_116_63, R_116_66, R_116_68, R_116_77, R_116_83, C_116_60, LN_116_12, LN_116_22, CH_116_32_8]
theorem sm_2 {b : Int} (b0 : 0 ≤ b) (b1 : b + 4 ≤ 400) (hT : ∀ j, b ≤ j → j < b + 4 → q_g s 3 j = T j) : EV (d + 8) 117 0 [.ref 2, .int (q_I b), .int (q_I 9), .int (q_I 4), .null] [] (q_h L xs s O c) = some (.inl (some (.int (q_I (q_b (eqw T b [114, 105, 115, 107] = true))))), q_h L xs (s) O c) := by
  have t0 : q_g s 3 (b + 0) = T b := by
    rw [hT (b + 0) (by omega) (by omega)]
    rw [Int.add_zero]
  have t1 : q_g s 3 (b + 1) = T (b + 1) := by
    rw [hT (b + 1) (by omega) (by omega)]
  have t2 : q_g s 3 (b + 2) = T (b + 1 + 1) := by
    rw [hT (b + 2) (by omega) (by omega)]
    rw [show b + 1 + 1 = b + 2 by omega]
  have t3 : q_g s 3 (b + 3) = T (b + 1 + 1 + 1) := by
    rw [hT (b + 3) (by omega) (by omega)]
    rw [show b + 1 + 1 + 1 = b + 3 by omega]
  have r0 := q_g_rg s 3 (b + 0)
  rw [t0] at r0
  have r1 := q_g_rg s 3 (b + 1)
  rw [t1] at r1
  have r2 := q_g_rg s 3 (b + 2)
  rw [t2] at r2
  have r3 := q_g_rg s 3 (b + 3)
  rw [t3] at r3
  by_cases c0 : T b = 114
  · skip
    by_cases c1 : T (b + 1) = 105
    · skip
      by_cases c2 : T (b + 1 + 1) = 115
      · skip
        by_cases c3 : T (b + 1 + 1 + 1) = 107
        · simp (disch := first | omega | exact q_b_01 _) only [↓reduceIte, q_bk0, q_bk1, q_bk2, q_sg_b, q_b_0, q_b_n0, q_b_1, q_b_n1, q_b_T, q_b_F, q_sg_g, q_sg_sg, q_sg_xs, q_sg_id, q_gu_ne, q_gu_eq, q_g_fne, q_g_cpe, q_w_f, q_v_f, q_u_f, q_fn_f, q_cp_f, q_sg_pg, q_sg_hc, q_lt_t, q_lt_f, q_le_t, q_le_f, q_eq_t, q_eq_f, ne_eq, eq_self, Bool.false_eq_true, Bool.true_eq_false, not_true_eq_false, not_false_eq_true, true_and, and_true, false_and, and_false, true_or, or_true, false_or, or_false, if_true, if_false, Int.reduceAdd, Int.reduceMul, Int.reduceSub, Int.reduceNeg, t0, t1, t2, t3, c0, c1, c2, c3, eqw, decide_true, Bool.and_self, Bool.and_true, Bool.true_and, R_117_0, R_117_3, R_117_9, R_117_18, R_117_27, R_117_30, R_117_32, R_117_38, CH_117_24_9, CH_117_24_10, CH_117_24_11, CH_117_24_12]
        · simp (disch := first | omega | exact q_b_01 _) only [↓reduceIte, q_bk0, q_bk1, q_bk2, q_sg_b, q_b_0, q_b_n0, q_b_1, q_b_n1, q_b_T, q_b_F, q_sg_g, q_sg_sg, q_sg_xs, q_sg_id, q_gu_ne, q_gu_eq, q_g_fne, q_g_cpe, q_w_f, q_v_f, q_u_f, q_fn_f, q_cp_f, q_sg_pg, q_sg_hc, q_lt_t, q_lt_f, q_le_t, q_le_f, q_eq_t, q_eq_f, ne_eq, eq_self, Bool.false_eq_true, Bool.true_eq_false, not_true_eq_false, not_false_eq_true, true_and, and_true, false_and, and_false, true_or, or_true, false_or, or_false, if_true, if_false, Int.reduceAdd, Int.reduceMul, Int.reduceSub, Int.reduceNeg, t0, t1, t2, t3, c0, c1, c2, c3, eqw, decide_true, decide_false, Bool.false_and, Bool.and_false, Bool.and_true, Bool.true_and, R_117_0, R_117_3, R_117_9, R_117_18, R_117_27, R_117_30, R_117_32, R_117_38, CH_117_24_9, CH_117_24_10, CH_117_24_11, CH_117_24_12]
      · simp (disch := first | omega | exact q_b_01 _) only [↓reduceIte, q_bk0, q_bk1, q_bk2, q_sg_b, q_b_0, q_b_n0, q_b_1, q_b_n1, q_b_T, q_b_F, q_sg_g, q_sg_sg, q_sg_xs, q_sg_id, q_gu_ne, q_gu_eq, q_g_fne, q_g_cpe, q_w_f, q_v_f, q_u_f, q_fn_f, q_cp_f, q_sg_pg, q_sg_hc, q_lt_t, q_lt_f, q_le_t, q_le_f, q_eq_t, q_eq_f, ne_eq, eq_self, Bool.false_eq_true, Bool.true_eq_false, not_true_eq_false, not_false_eq_true, true_and, and_true, false_and, and_false, true_or, or_true, false_or, or_false, if_true, if_false, Int.reduceAdd, Int.reduceMul, Int.reduceSub, Int.reduceNeg, t0, t1, t2, c0, c1, c2, eqw, decide_true, decide_false, Bool.false_and, Bool.and_false, Bool.and_true, Bool.true_and, R_117_0, R_117_3, R_117_9, R_117_18, R_117_27, R_117_30, R_117_32, R_117_38, CH_117_24_9, CH_117_24_10, CH_117_24_11]
    · simp (disch := first | omega | exact q_b_01 _) only [↓reduceIte, q_bk0, q_bk1, q_bk2, q_sg_b, q_b_0, q_b_n0, q_b_1, q_b_n1, q_b_T, q_b_F, q_sg_g, q_sg_sg, q_sg_xs, q_sg_id, q_gu_ne, q_gu_eq, q_g_fne, q_g_cpe, q_w_f, q_v_f, q_u_f, q_fn_f, q_cp_f, q_sg_pg, q_sg_hc, q_lt_t, q_lt_f, q_le_t, q_le_f, q_eq_t, q_eq_f, ne_eq, eq_self, Bool.false_eq_true, Bool.true_eq_false, not_true_eq_false, not_false_eq_true, true_and, and_true, false_and, and_false, true_or, or_true, false_or, or_false, if_true, if_false, Int.reduceAdd, Int.reduceMul, Int.reduceSub, Int.reduceNeg, t0, t1, c0, c1, eqw, decide_true, decide_false, Bool.false_and, Bool.and_false, Bool.and_true, Bool.true_and, R_117_0, R_117_3, R_117_9, R_117_18, R_117_27, R_117_30, R_117_32, R_117_38, CH_117_24_9, CH_117_24_10]
  · simp (disch := first | omega | exact q_b_01 _) only [↓reduceIte, q_bk0, q_bk1, q_bk2, q_sg_b, q_b_0, q_b_n0, q_b_1, q_b_n1, q_b_T, q_b_F, q_sg_g, q_sg_sg, q_sg_xs, q_sg_id, q_gu_ne, q_gu_eq, q_g_fne, q_g_cpe, q_w_f, q_v_f, q_u_f, q_fn_f, q_cp_f, q_sg_pg, q_sg_hc, q_lt_t, q_lt_f, q_le_t, q_le_f, q_eq_t, q_eq_f, ne_eq, eq_self, Bool.false_eq_true, Bool.true_eq_false, not_true_eq_false, not_false_eq_true, true_and, and_true, false_and, and_false, true_or, or_true, false_or, or_false, if_true, if_false, Int.reduceAdd, Int.reduceMul, Int.reduceSub, Int.reduceNeg, t0, c0, eqw, decide_true, decide_false, Bool.false_and, Bool.and_false, Bool.and_true, Bool.true_and, R_117_0, R_117_3, R_117_9, R_117_18, R_117_27, R_117_30, R_117_32, R_117_38, CH_117_24_9]
theorem ws_2 {b e : Int} (b0 : 0 ≤ b) (be : b < e) (e1 : e ≤ 400) (hT : ∀ j, b ≤ j → j < e → q_g s 3 j = T j) : EV (d + 9) 116 8 [.ref 2, .int (q_I (b)), .int (q_I (e)), .int (q_I (2)), .int (q_I (9)), .int (q_I (9))] [] (q_h L xs s O c) = if e - b = 4 ∧ eqw T b [114, 105, 115, 107] = true then some (.inl (some (.int (q_I (2)))), q_h L xs (s) O c) else EV (d + 9) 116 8 [.ref 2, .int (q_I (b)), .int (q_I (e)), .int (q_I (3)), .int (q_I (14)), .int (q_I (14))] [] (q_h L xs s O c) := by
  rw [R_116_8]
  simp (disch := first | omega | exact q_b_01 _) only [↓reduceIte, q_bk0, q_bk1, q_bk2, q_sg_b, q_b_0, q_b_n0, q_b_1, q_b_n1, q_b_T, q_b_F, q_sg_g, q_sg_sg, q_sg_xs, q_sg_id, q_gu_ne, q_gu_eq, q_g_fne, q_g_cpe, q_w_f, q_v_f, q_u_f, q_fn_f, q_cp_f, q_sg_pg, q_sg_hc, q_lt_t, q_lt_f, q_le_t, q_le_f, q_eq_t, q_eq_f, ne_eq, eq_self, Bool.false_eq_true, Bool.true_eq_false, not_true_eq_false, not_false_eq_true, true_and, and_true, false_and, and_false, true_or, or_true, false_or, or_false, if_true, if_false, Int.reduceAdd, Int.reduceMul, Int.reduceSub, Int.reduceNeg, R_116_0, R_116_15, R_116_18, R_116_25, R_116_28, R_116_35, R_116_40, R_116_51, R_116_63, R_116_66, R_116_68, R_116_77, R_116_83, C_116_60, LN_116_12, LN_116_22, CH_116_32_9]
  rw [R_116_8]
  simp (disch := first | omega | exact q_b_01 _) only [↓reduceIte, q_bk0, q_bk1, q_bk2, q_sg_b, q_b_0, q_b_n0, q_b_1, q_b_n1, q_b_T, q_b_F, q_sg_g, q_sg_sg, q_sg_xs, q_sg_id, q_gu_ne, q_gu_eq, q_g_fne, q_g_cpe, q_w_f, q_v_f, q_u_f, q_fn_f, q_cp_f, q_sg_pg, q_sg_hc, q_lt_t, q_lt_f, q_le_t, q_le_f, q_eq_t, q_eq_f, ne_eq, eq_self, Bool.false_eq_true, Bool.true_eq_false, not_true_eq_false, not_false_eq_true, true_and, and_true, false_and, and_false, true_or, or_true, false_or, or_false, if_true, if_false, Int.reduceAdd, Int.reduceMul, Int.reduceSub, Int.reduceNeg, R_116_0, R_116_15, R_116_18, R_116_25, R_116_28, R_116_35, R_116_40, R_116_51, R_116_63, R_116_66, R_116_68, R_116_77, R_116_83, C_116_60, LN_116_12, LN_116_22, CH_116_32_10]
  rw [R_116_8]
  simp (disch := first | omega | exact q_b_01 _) only [↓reduceIte, q_bk0, q_bk1, q_bk2, q_sg_b, q_b_0, q_b_n0, q_b_1, q_b_n1, q_b_T, q_b_F, q_sg_g, q_sg_sg, q_sg_xs, q_sg_id, q_gu_ne, q_gu_eq, q_g_fne, q_g_cpe, q_w_f, q_v_f, q_u_f, q_fn_f, q_cp_f, q_sg_pg, q_sg_hc, q_lt_t, q_lt_f, q_le_t, q_le_f, q_eq_t, q_eq_f, ne_eq, eq_self, Bool.false_eq_true, Bool.true_eq_false, not_true_eq_false, not_false_eq_true, true_and, and_true, false_and, and_false, true_or, or_true, false_or, or_false, if_true, if_false, Int.reduceAdd, Int.reduceMul, Int.reduceSub, Int.reduceNeg, R_116_0, R_116_15, R_116_18, R_116_25, R_116_28, R_116_35, R_116_40, R_116_51, R_116_63, R_116_66, R_116_68, R_116_77, R_116_83, C_116_60, LN_116_12, LN_116_22, CH_116_32_11]
  rw [R_116_8]
  simp (disch := first | omega | exact q_b_01 _) only [↓reduceIte, q_bk0, q_bk1, q_bk2, q_sg_b, q_b_0, q_b_n0, q_b_1, q_b_n1, q_b_T, q_b_F, q_sg_g, q_sg_sg, q_sg_xs, q_sg_id, q_gu_ne, q_gu_eq, q_g_fne, q_g_cpe, q_w_f, q_v_f, q_u_f, q_fn_f, q_cp_f, q_sg_pg, q_sg_hc, q_lt_t, q_lt_f, q_le_t, q_le_f, q_eq_t, q_eq_f, ne_eq, eq_self, Bool.false_eq_true, Bool.true_eq_false, not_true_eq_false, not_false_eq_true, true_and, and_true, false_and, and_false, true_or, or_true, false_or, or_false, if_true, if_false, Int.reduceAdd, Int.reduceMul, Int.reduceSub, Int.reduceNeg, R_116_0, R_116_15, R_116_18, R_116_25, R_116_28, R_116_35, R_116_40, R_116_51, R_116_63, R_116_66, R_116_68, R_116_77, R_116_83, C_116_60, LN_116_12, LN_116_22, CH_116_32_12]
  rw [R_116_8]
  by_cases c1 : e - b = 4
  · have sm := sm_2 (d := d) (L := L) (xs := xs) (s := s) (O := O) (c := c) (T := T) b0 (by omega) (fun j h1 h2 => hT j h1 (by omega))
    by_cases c2 : eqw T b [114, 105, 115, 107] = true
    · rw [if_pos ⟨c1, c2⟩]
      rw [q_bt c2] at sm
      simp (disch := first | omega | exact q_b_01 _) only [↓reduceIte, q_bk0, q_bk1, q_bk2, q_sg_b, q_b_0, q_b_n0, q_b_1, q_b_n1, q_b_T, q_b_F, q_sg_g, q_sg_sg, q_sg_xs, q_sg_id, q_gu_ne, q_gu_eq, q_g_fne, q_g_cpe, q_w_f, q_v_f, q_u_f, q_fn_f, q_cp_f, q_sg_pg, q_sg_hc, q_lt_t, q_lt_f, q_le_t, q_le_f, q_eq_t, q_eq_f, ne_eq, eq_self, Bool.false_eq_true, Bool.true_eq_false, not_true_eq_false, not_false_eq_true, true_and, and_true, false_and, and_false, true_or, or_true, false_or, or_false, if_true, if_false, Int.reduceAdd, Int.reduceMul, Int.reduceSub, Int.reduceNeg, sm, R_116_0, R_116_15, R_116_18, R_116_25, R_116_28, R_116_35, R_116_40, R_116_51, R_116_63, R_116_66, R_116_68, R_116_77, R_116_83, C_116_60, LN_116_12, LN_116_22, CH_116_32_13]
    · rw [if_neg (fun h => c2 h.2)]
      rw [q_bf c2] at sm
      simp (disch := first | omega | exact q_b_01 _) only [↓reduceIte, q_bk0, q_bk1, q_bk2, q_sg_b, q_b_0, q_b_n0, q_b_1, q_b_n1, q_b_T, q_b_F, q_sg_g, q_sg_sg, q_sg_xs, q_sg_id, q_gu_ne, q_gu_eq, q_g_fne, q_g_cpe, q_w_f, q_v_f, q_u_f, q_fn_f, q_cp_f, q_sg_pg, q_sg_hc, q_lt_t, q_lt_f, q_le_t, q_le_f, q_eq_t, q_eq_f, ne_eq, eq_self, Bool.false_eq_true, Bool.true_eq_false, not_true_eq_false, not_false_eq_true, true_and, and_true, false_and, and_false, true_or, or_true, false_or, or_false, if_true, if_false, Int.reduceAdd, Int.reduceMul, Int.reduceSub, Int.reduceNeg, sm, R_116_0, R_116_15, R_116_18, R_116_25, R_116_28, R_116_35, R_116_40, R_116_51, R_116_63, R_116_66, R_116_68, R_116_77, R_116_83, C_116_60, LN_116_12, LN_116_22, CH_116_32_13]
  · rw [if_neg (fun h => c1 h.1)]
    simp (disch := first | omega | exact q_b_01 _) only [↓reduceIte, q_bk0, q_bk1, q_bk2, q_sg_b, q_b_0, q_b_n0, q_b_1, q_b_n1, q_b_T, q_b_F, q_sg_g, q_sg_sg, q_sg_xs, q_sg_id, q_gu_ne, q_gu_eq, q_g_fne, q_g_cpe, q_w_f, q_v_f, q_u_f, q_fn_f, q_cp_f, q_sg_pg, q_sg_hc, q_lt_t, q_lt_f, q_le_t, q_le_f, q_eq_t, q_eq_f, ne_eq, eq_self, Bool.false_eq_true, Bool.true_eq_false, not_true_eq_false, not_false_eq_true, true_and, and_true, false_and, and_false, true_or, or_true, false_or, or_false, if_true, if_false, Int.reduceAdd, Int.reduceMul, Int.reduceSub, Int.reduceNeg, R_116_0, R_116_15, R_116_18, R_116_25, R_116_28, R_116_35, R_116_40, R_116_51, R_116_63, R_116_66, R_116_68, R_116_77, R_116_83, C_116_60, LN_116_12, LN_116_22, CH_116_32_13]
theorem sm_3 {b : Int} (b0 : 0 ≤ b) (b1 : b + 5 ≤ 400) (hT : ∀ j, b ≤ j → j < b + 5 → q_g s 3 j = T j) : EV (d + 8) 117 0 [.ref 2, .int (q_I b), .int (q_I 14), .int (q_I 5), .null] [] (q_h L xs s O c) = some (.inl (some (.int (q_I (q_b (eqw T b [115, 112, 97, 114, 101] = true))))), q_h L xs (s) O c) := by
  have t0 : q_g s 3 (b + 0) = T b := by
    rw [hT (b + 0) (by omega) (by omega)]
    rw [Int.add_zero]
  have t1 : q_g s 3 (b + 1) = T (b + 1) := by
    rw [hT (b + 1) (by omega) (by omega)]
  have t2 : q_g s 3 (b + 2) = T (b + 1 + 1) := by
    rw [hT (b + 2) (by omega) (by omega)]
    rw [show b + 1 + 1 = b + 2 by omega]
  have t3 : q_g s 3 (b + 3) = T (b + 1 + 1 + 1) := by
    rw [hT (b + 3) (by omega) (by omega)]
    rw [show b + 1 + 1 + 1 = b + 3 by omega]
  have t4 : q_g s 3 (b + 4) = T (b + 1 + 1 + 1 + 1) := by
    rw [hT (b + 4) (by omega) (by omega)]
    rw [show b + 1 + 1 + 1 + 1 = b + 4 by omega]
  have r0 := q_g_rg s 3 (b + 0)
  rw [t0] at r0
  have r1 := q_g_rg s 3 (b + 1)
  rw [t1] at r1
  have r2 := q_g_rg s 3 (b + 2)
  rw [t2] at r2
  have r3 := q_g_rg s 3 (b + 3)
  rw [t3] at r3
  have r4 := q_g_rg s 3 (b + 4)
  rw [t4] at r4
  by_cases c0 : T b = 115
  · skip
    by_cases c1 : T (b + 1) = 112
    · skip
      by_cases c2 : T (b + 1 + 1) = 97
      · skip
        by_cases c3 : T (b + 1 + 1 + 1) = 114
        · skip
          by_cases c4 : T (b + 1 + 1 + 1 + 1) = 101
          · simp (disch := first | omega | exact q_b_01 _) only [↓reduceIte, q_bk0, q_bk1, q_bk2, q_sg_b, q_b_0, q_b_n0, q_b_1, q_b_n1, q_b_T, q_b_F, q_sg_g, q_sg_sg, q_sg_xs, q_sg_id, q_gu_ne, q_gu_eq, q_g_fne, q_g_cpe, q_w_f, q_v_f, q_u_f, q_fn_f, q_cp_f, q_sg_pg, q_sg_hc, q_lt_t, q_lt_f, q_le_t, q_le_f, q_eq_t, q_eq_f, ne_eq, eq_self, Bool.false_eq_true, Bool.true_eq_false, not_true_eq_false, not_false_eq_true, true_and, and_true, false_and, and_false, true_or, or_true, false_or, or_false, if_true, if_false, Int.reduceAdd, Int.reduceMul, Int.reduceSub, Int.reduceNeg, t0, t1, t2, t3, t4, c0, c1, c2, c3, c4, eqw, decide_true, Bool.and_self, Bool.and_true, Bool.true_and, R_117_0, R_117_3, R_117_9, R_117_18, R_117_27, R_117_30, R_117_32, R_117_38, CH_117_24_14, CH_117_24_15, CH_117_24_16, CH_117_24_17, CH_117_24_18]
          · simp (disch := first | omega | exact q_b_01 _) only [↓reduceIte, q_bk0, q_bk1, q_bk2, q_sg_b, q_b_0, q_b_n0, q_b_1, q_b_n1, q_b_T, q_b_F, q_sg_g, q_sg_sg, q_sg_xs, q_sg_id, q_gu_ne, q_gu_eq, q_g_fne, q_g_cpe, q_w_f, q_v_f, q_u_f, q_fn_f, q_cp_f, q_sg_pg, q_sg_hc, q_lt_t, q_lt_f, q_le_t, q_le_f, q_eq_t, q_eq_f, ne_eq, eq_self, Bool.false_eq_true, Bool.true_eq_false, not_true_eq_false, not_false_eq_true, true_and, and_true, false_and, and_false, true_or, or_true, false_or, or_false, if_true, if_false, Int.reduceAdd, Int.reduceMul, Int.reduceSub, Int.reduceNeg, t0, t1, t2, t3, t4, c0, c1, c2, c3, c4, eqw, decide_true, decide_false, Bool.false_and, Bool.and_false, Bool.and_true, Bool.true_and, R_117_0, R_117_3, R_117_9, R_117_18, R_117_27, R_117_30, R_117_32, R_117_38, CH_117_24_14, CH_117_24_15, CH_117_24_16, CH_117_24_17, CH_117_24_18]
        · simp (disch := first | omega | exact q_b_01 _) only [↓reduceIte, q_bk0, q_bk1, q_bk2, q_sg_b, q_b_0, q_b_n0, q_b_1, q_b_n1, q_b_T, q_b_F, q_sg_g, q_sg_sg, q_sg_xs, q_sg_id, q_gu_ne, q_gu_eq, q_g_fne, q_g_cpe, q_w_f, q_v_f, q_u_f, q_fn_f, q_cp_f, q_sg_pg, q_sg_hc, q_lt_t, q_lt_f, q_le_t, q_le_f, q_eq_t, q_eq_f, ne_eq, eq_self, Bool.false_eq_true, Bool.true_eq_false, not_true_eq_false, not_false_eq_true, true_and, and_true, false_and, and_false, true_or, or_true, false_or, or_false, if_true, if_false, Int.reduceAdd, Int.reduceMul, Int.reduceSub, Int.reduceNeg, t0, t1, t2, t3, c0, c1, c2, c3, eqw, decide_true, decide_false, Bool.false_and, Bool.and_false, Bool.and_true, Bool.true_and, R_117_0, R_117_3, R_117_9, R_117_18, R_117_27, R_117_30, R_117_32, R_117_38, CH_117_24_14, CH_117_24_15, CH_117_24_16, CH_117_24_17]
      · simp (disch := first | omega | exact q_b_01 _) only [↓reduceIte, q_bk0, q_bk1, q_bk2, q_sg_b, q_b_0, q_b_n0, q_b_1, q_b_n1, q_b_T, q_b_F, q_sg_g, q_sg_sg, q_sg_xs, q_sg_id, q_gu_ne, q_gu_eq, q_g_fne, q_g_cpe, q_w_f, q_v_f, q_u_f, q_fn_f, q_cp_f, q_sg_pg, q_sg_hc, q_lt_t, q_lt_f, q_le_t, q_le_f, q_eq_t, q_eq_f, ne_eq, eq_self, Bool.false_eq_true, Bool.true_eq_false, not_true_eq_false, not_false_eq_true, true_and, and_true, false_and, and_false, true_or, or_true, false_or, or_false, if_true, if_false, Int.reduceAdd, Int.reduceMul, Int.reduceSub, Int.reduceNeg, t0, t1, t2, c0, c1, c2, eqw, decide_true, decide_false, Bool.false_and, Bool.and_false, Bool.and_true, Bool.true_and, R_117_0, R_117_3, R_117_9, R_117_18, R_117_27, R_117_30, R_117_32, R_117_38, CH_117_24_14, CH_117_24_15, CH_117_24_16]
    · simp (disch := first | omega | exact q_b_01 _) only [↓reduceIte, q_bk0, q_bk1, q_bk2, q_sg_b, q_b_0, q_b_n0, q_b_1, q_b_n1, q_b_T, q_b_F, q_sg_g, q_sg_sg, q_sg_xs, q_sg_id, q_gu_ne, q_gu_eq, q_g_fne, q_g_cpe, q_w_f, q_v_f, q_u_f, q_fn_f, q_cp_f, q_sg_pg, q_sg_hc, q_lt_t, q_lt_f, q_le_t, q_le_f, q_eq_t, q_eq_f, ne_eq, eq_self, Bool.false_eq_true, Bool.true_eq_false, not_true_eq_false, not_false_eq_true, true_and, and_true, false_and, and_false, true_or, or_true, false_or, or_false, if_true, if_false, Int.reduceAdd, Int.reduceMul, Int.reduceSub, Int.reduceNeg, t0, t1, c0, c1, eqw, decide_true, decide_false, Bool.false_and, Bool.and_false, Bool.and_true, Bool.true_and, R_117_0, R_117_3, R_117_9, R_117_18, R_117_27, R_117_30, R_117_32, R_117_38, CH_117_24_14, CH_117_24_15]
  · simp (disch := first | omega | exact q_b_01 _) only [↓reduceIte, q_bk0, q_bk1, q_bk2, q_sg_b, q_b_0, q_b_n0, q_b_1, q_b_n1, q_b_T, q_b_F, q_sg_g, q_sg_sg, q_sg_xs, q_sg_id, q_gu_ne, q_gu_eq, q_g_fne, q_g_cpe, q_w_f, q_v_f, q_u_f, q_fn_f, q_cp_f, q_sg_pg, q_sg_hc, q_lt_t, q_lt_f, q_le_t, q_le_f, q_eq_t, q_eq_f, ne_eq, eq_self, Bool.false_eq_true, Bool.true_eq_false, not_true_eq_false, not_false_eq_true, true_and, and_true, false_and, and_false, true_or, or_true, false_or, or_false, if_true, if_false, Int.reduceAdd, Int.reduceMul, Int.reduceSub, Int.reduceNeg, t0, c0, eqw, decide_true, decide_false, Bool.false_and, Bool.and_false, Bool.and_true, Bool.true_and, R_117_0, R_117_3, R_117_9, R_117_18, R_117_27, R_117_30, R_117_32, R_117_38, CH_117_24_14]
theorem ws_3 {b e : Int} (b0 : 0 ≤ b) (be : b < e) (e1 : e ≤ 400) (hT : ∀ j, b ≤ j → j < e → q_g s 3 j = T j) : EV (d + 9) 116 8 [.ref 2, .int (q_I (b)), .int (q_I (e)), .int (q_I (3)), .int (q_I (14)), .int (q_I (14))] [] (q_h L xs s O c) = if e - b = 5 ∧ eqw T b [115, 112, 97, 114, 101] = true then some (.inl (some (.int (q_I (3)))), q_h L xs (s) O c) else EV (d + 9) 116 8 [.ref 2, .int (q_I (b)), .int (q_I (e)), .int (q_I (4)), .int (q_I (20)), .int (q_I (20))] [] (q_h L xs s O c) := by
  rw [R_116_8]
  simp (disch := first | omega | exact q_b_01 _) only [↓reduceIte, q_bk0, q_bk1, q_bk2, q_sg_b, q_b_0, q_b_n0, q_b_1, q_b_n1, q_b_T, q_b_F, q_sg_g, q_sg_sg, q_sg_xs, q_sg_id, q_gu_ne, q_gu_eq, q_g_fne, q_g_cpe, q_w_f, q_v_f, q_u_f, q_fn_f, q_cp_f, q_sg_pg, q_sg_hc, q_lt_t, q_lt_f, q_le_t, q_le_f, q_eq_t, q_eq_f, ne_eq, eq_self, Bool.false_eq_true, Bool.true_eq_false, not_true_eq_false, not_false_eq_true, true_and, and_true, false_and, and_false, true_or, or_true, false_or, or_false, if_true, if_false, Int.reduceAdd, Int.reduceMul, Int.reduceSub, Int.reduceNeg, R_116_0, R_116_15, R_116_18, R_116_25, R_116_28, R_116_35, R_116_40, R_116_51, R_116_63, R_116_66, R_116_68, R_116_77, R_116_83, C_116_60, LN_116_12, LN_116_22, CH_116_32_14]
  rw [R_116_8]
  simp (disch := first | omega | exact q_b_01 _) only [↓reduceIte, q_bk0, q_bk1, q_bk2, q_sg_b, q_b_0, q_b_n0, q_b_1, q_b_n1, q_b_T, q_b_F, q_sg_g, q_sg_sg, q_sg_xs, q_sg_id, q_gu_ne, q_gu_eq, q_g_fne, q_g_cpe, q_w_f, q_v_f, q_u_f, q_fn_f, q_cp_f, q_sg_pg, q_sg_hc, q_lt_t, q_lt_f, q_le_t, q_le_f, q_eq_t, q_eq_f, ne_eq, eq_self, Bool.false_eq_true, Bool.true_eq_false, not_true_eq_false, not_false_eq_true, true_and, and_true, false_and, and_false, true_or, or_true, false_or, or_false, if_true, if_false, Int.reduceAdd, Int.reduceMul, Int.reduceSub, Int.reduceNeg, R_116_0, R_116_15, R_116_18, R_116_25, R_116_28, R_116_35, R_116_40, R_116_51, R_116_63, R_116_66, R_116_68, R_116_77, R_116_83, C_116_60, LN_116_12, LN_116_22, CH_116_32_15]
  rw [R_116_8]
  simp (disch := first | omega | exact q_b_01 _) only [↓reduceIte, q_bk0, q_bk1, q_bk2, q_sg_b, q_b_0, q_b_n0, q_b_1, q_b_n1, q_b_T, q_b_F, q_sg_g, q_sg_sg, q_sg_xs, q_sg_id, q_gu_ne, q_gu_eq, q_g_fne, q_g_cpe, q_w_f, q_v_f, q_u_f, q_fn_f, q_cp_f, q_sg_pg, q_sg_hc, q_lt_t, q_lt_f, q_le_t, q_le_f, q_eq_t, q_eq_f, ne_eq, eq_self, Bool.false_eq_true, Bool.true_eq_false, not_true_eq_false, not_false_eq_true, true_and, and_true, false_and, and_false, true_or, or_true, false_or, or_false, if_true, if_false, Int.reduceAdd, Int.reduceMul, Int.reduceSub, Int.reduceNeg, R_116_0, R_116_15, R_116_18, R_116_25, R_116_28, R_116_35, R_116_40, R_116_51, R_116_63, R_116_66, R_116_68, R_116_77, R_116_83, C_116_60, LN_116_12, LN_116_22, CH_116_32_16]
  rw [R_116_8]
  simp (disch := first | omega | exact q_b_01 _) only [↓reduceIte, q_bk0, q_bk1, q_bk2, q_sg_b, q_b_0, q_b_n0, q_b_1, q_b_n1, q_b_T, q_b_F, q_sg_g, q_sg_sg, q_sg_xs, q_sg_id, q_gu_ne, q_gu_eq, q_g_fne, q_g_cpe, q_w_f, q_v_f, q_u_f, q_fn_f, q_cp_f, q_sg_pg, q_sg_hc, q_lt_t, q_lt_f, q_le_t, q_le_f, q_eq_t, q_eq_f, ne_eq, eq_self, Bool.false_eq_true, Bool.true_eq_false, not_true_eq_false, not_false_eq_true, true_and, and_true, false_and, and_false, true_or, or_true, false_or, or_false, if_true, if_false, Int.reduceAdd, Int.reduceMul, Int.reduceSub, Int.reduceNeg, R_116_0, R_116_15, R_116_18, R_116_25, R_116_28, R_116_35, R_116_40, R_116_51, R_116_63, R_116_66, R_116_68, R_116_77, R_116_83, C_116_60, LN_116_12, LN_116_22, CH_116_32_17]
  rw [R_116_8]
  simp (disch := first | omega | exact q_b_01 _) only [↓reduceIte, q_bk0, q_bk1, q_bk2, q_sg_b, q_b_0, q_b_n0, q_b_1, q_b_n1, q_b_T, q_b_F, q_sg_g, q_sg_sg, q_sg_xs, q_sg_id, q_gu_ne, q_gu_eq, q_g_fne, q_g_cpe, q_w_f, q_v_f, q_u_f, q_fn_f, q_cp_f, q_sg_pg, q_sg_hc, q_lt_t, q_lt_f, q_le_t, q_le_f, q_eq_t, q_eq_f, ne_eq, eq_self, Bool.false_eq_true, Bool.true_eq_false, not_true_eq_false, not_false_eq_true, true_and, and_true, false_and, and_false, true_or, or_true, false_or, or_false, if_true, if_false, Int.reduceAdd, Int.reduceMul, Int.reduceSub, Int.reduceNeg, R_116_0, R_116_15, R_116_18, R_116_25, R_116_28, R_116_35, R_116_40, R_116_51, R_116_63, R_116_66, R_116_68, R_116_77, R_116_83, C_116_60, LN_116_12, LN_116_22, CH_116_32_18]
  rw [R_116_8]
  by_cases c1 : e - b = 5
  · have sm := sm_3 (d := d) (L := L) (xs := xs) (s := s) (O := O) (c := c) (T := T) b0 (by omega) (fun j h1 h2 => hT j h1 (by omega))
    by_cases c2 : eqw T b [115, 112, 97, 114, 101] = true
    · rw [if_pos ⟨c1, c2⟩]
      rw [q_bt c2] at sm
      simp (disch := first | omega | exact q_b_01 _) only [↓reduceIte, q_bk0, q_bk1, q_bk2, q_sg_b, q_b_0, q_b_n0, q_b_1, q_b_n1, q_b_T, q_b_F, q_sg_g, q_sg_sg, q_sg_xs, q_sg_id, q_gu_ne, q_gu_eq, q_g_fne, q_g_cpe, q_w_f, q_v_f, q_u_f, q_fn_f, q_cp_f, q_sg_pg, q_sg_hc, q_lt_t, q_lt_f, q_le_t, q_le_f, q_eq_t, q_eq_f, ne_eq, eq_self, Bool.false_eq_true, Bool.true_eq_false, not_true_eq_false, not_false_eq_true, true_and, and_true, false_and, and_false, true_or, or_true, false_or, or_false, if_true, if_false, Int.reduceAdd, Int.reduceMul, Int.reduceSub, Int.reduceNeg, sm, R_116_0, R_116_15, R_116_18, R_116_25, R_116_28, R_116_35, R_116_40, R_116_51, R_116_63, R_116_66, R_116_68, R_116_77, R_116_83, C_116_60, LN_116_12, LN_116_22, CH_116_32_19]
    · rw [if_neg (fun h => c2 h.2)]
      rw [q_bf c2] at sm
      simp (disch := first | omega | exact q_b_01 _) only [↓reduceIte, q_bk0, q_bk1, q_bk2, q_sg_b, q_b_0, q_b_n0, q_b_1, q_b_n1, q_b_T, q_b_F, q_sg_g, q_sg_sg, q_sg_xs, q_sg_id, q_gu_ne, q_gu_eq, q_g_fne, q_g_cpe, q_w_f, q_v_f, q_u_f, q_fn_f, q_cp_f, q_sg_pg, q_sg_hc, q_lt_t, q_lt_f, q_le_t, q_le_f, q_eq_t, q_eq_f, ne_eq, eq_self, Bool.false_eq_true, Bool.true_eq_false, not_true_eq_false, not_false_eq_true, true_and, and_true, false_and, and_false, true_or, or_true, false_or, or_false, if_true, if_false, Int.reduceAdd, Int.reduceMul, Int.reduceSub, Int.reduceNeg, sm, R_116_0, R_116_15, R_116_18, R_116_25, R_116_28, R_116_35, R_116_40, R_116_51, R_116_63, R_116_66, R_116_68, R_116_77, R_116_83, C_116_60, LN_116_12, LN_116_22, CH_116_32_19]
  · rw [if_neg (fun h => c1 h.1)]
    simp (disch := first | omega | exact q_b_01 _) only [↓reduceIte, q_bk0, q_bk1, q_bk2, q_sg_b, q_b_0, q_b_n0, q_b_1, q_b_n1, q_b_T, q_b_F, q_sg_g, q_sg_sg, q_sg_xs, q_sg_id, q_gu_ne, q_gu_eq, q_g_fne, q_g_cpe, q_w_f, q_v_f, q_u_f, q_fn_f, q_cp_f, q_sg_pg, q_sg_hc, q_lt_t, q_lt_f, q_le_t, q_le_f, q_eq_t, q_eq_f, ne_eq, eq_self, Bool.false_eq_true, Bool.true_eq_false, not_true_eq_false, not_false_eq_true, true_and, and_true, false_and, and_false, true_or, or_true, false_or, or_false, if_true, if_false, Int.reduceAdd, Int.reduceMul, Int.reduceSub, Int.reduceNeg, R_116_0, R_116_15, R_116_18, R_116_25, R_116_28, R_116_35, R_116_40, R_116_51, R_116_63, R_116_66, R_116_68, R_116_77, R_116_83, C_116_60, LN_116_12, LN_116_22, CH_116_32_19]
theorem sm_4 {b : Int} (b0 : 0 ≤ b) (b1 : b + 4 ≤ 400) (hT : ∀ j, b ≤ j → j < b + 4 → q_g s 3 j = T j) : EV (d + 8) 117 0 [.ref 2, .int (q_I b), .int (q_I 20), .int (q_I 4), .null] [] (q_h L xs s O c) = some (.inl (some (.int (q_I (q_b (eqw T b [99, 111, 115, 116] = true))))), q_h L xs (s) O c) := by
  have t0 : q_g s 3 (b + 0) = T b := by
    rw [hT (b + 0) (by omega) (by omega)]
    rw [Int.add_zero]
  have t1 : q_g s 3 (b + 1) = T (b + 1) := by
    rw [hT (b + 1) (by omega) (by omega)]
  have t2 : q_g s 3 (b + 2) = T (b + 1 + 1) := by
    rw [hT (b + 2) (by omega) (by omega)]
    rw [show b + 1 + 1 = b + 2 by omega]
  have t3 : q_g s 3 (b + 3) = T (b + 1 + 1 + 1) := by
    rw [hT (b + 3) (by omega) (by omega)]
    rw [show b + 1 + 1 + 1 = b + 3 by omega]
  have r0 := q_g_rg s 3 (b + 0)
  rw [t0] at r0
  have r1 := q_g_rg s 3 (b + 1)
  rw [t1] at r1
  have r2 := q_g_rg s 3 (b + 2)
  rw [t2] at r2
  have r3 := q_g_rg s 3 (b + 3)
  rw [t3] at r3
  by_cases c0 : T b = 99
  · skip
    by_cases c1 : T (b + 1) = 111
    · skip
      by_cases c2 : T (b + 1 + 1) = 115
      · skip
        by_cases c3 : T (b + 1 + 1 + 1) = 116
        · simp (disch := first | omega | exact q_b_01 _) only [↓reduceIte, q_bk0, q_bk1, q_bk2, q_sg_b, q_b_0, q_b_n0, q_b_1, q_b_n1, q_b_T, q_b_F, q_sg_g, q_sg_sg, q_sg_xs, q_sg_id, q_gu_ne, q_gu_eq, q_g_fne, q_g_cpe, q_w_f, q_v_f, q_u_f, q_fn_f, q_cp_f, q_sg_pg, q_sg_hc, q_lt_t, q_lt_f, q_le_t, q_le_f, q_eq_t, q_eq_f, ne_eq, eq_self, Bool.false_eq_true, Bool.true_eq_false, not_true_eq_false, not_false_eq_true, true_and, and_true, false_and, and_false, true_or, or_true, false_or, or_false, if_true, if_false, Int.reduceAdd, Int.reduceMul, Int.reduceSub, Int.reduceNeg, t0, t1, t2, t3, c0, c1, c2, c3, eqw, decide_true, Bool.and_self, Bool.and_true, Bool.true_and, R_117_0, R_117_3, R_117_9, R_117_18, R_117_27, R_117_30, R_117_32, R_117_38, CH_117_24_20, CH_117_24_21, CH_117_24_22, CH_117_24_23]
        · simp (disch := first | omega | exact q_b_01 _) only [↓reduceIte, q_bk0, q_bk1, q_bk2, q_sg_b, q_b_0, q_b_n0, q_b_1, q_b_n1, q_b_T, q_b_F, q_sg_g, q_sg_sg, q_sg_xs, q_sg_id, q_gu_ne, q_gu_eq, q_g_fne, q_g_cpe, q_w_f, q_v_f, q_u_f, q_fn_f, q_cp_f, q_sg_pg, q_sg_hc, q_lt_t, q_lt_f, q_le_t, q_le_f, q_eq_t, q_eq_f, ne_eq, eq_self, Bool.false_eq_true, Bool.true_eq_false, not_true_eq_false, not_false_eq_true, true_and, and_true, false_and, and_false, true_or, or_true, false_or, or_false, if_true, if_false, Int.reduceAdd, Int.reduceMul, Int.reduceSub, Int.reduceNeg, t0, t1, t2, t3, c0, c1, c2, c3, eqw, decide_true, decide_false, Bool.false_and, Bool.and_false, Bool.and_true, Bool.true_and, R_117_0, R_117_3, R_117_9, R_117_18, R_117_27, R_117_30, R_117_32, R_117_38, CH_117_24_20, CH_117_24_21, CH_117_24_22, CH_117_24_23]
      · simp (disch := first | omega | exact q_b_01 _) only [↓reduceIte, q_bk0, q_bk1, q_bk2, q_sg_b, q_b_0, q_b_n0, q_b_1, q_b_n1, q_b_T, q_b_F, q_sg_g, q_sg_sg, q_sg_xs, q_sg_id, q_gu_ne, q_gu_eq, q_g_fne, q_g_cpe, q_w_f, q_v_f, q_u_f, q_fn_f, q_cp_f, q_sg_pg, q_sg_hc, q_lt_t, q_lt_f, q_le_t, q_le_f, q_eq_t, q_eq_f, ne_eq, eq_self, Bool.false_eq_true, Bool.true_eq_false, not_true_eq_false, not_false_eq_true, true_and, and_true, false_and, and_false, true_or, or_true, false_or, or_false, if_true, if_false, Int.reduceAdd, Int.reduceMul, Int.reduceSub, Int.reduceNeg, t0, t1, t2, c0, c1, c2, eqw, decide_true, decide_false, Bool.false_and, Bool.and_false, Bool.and_true, Bool.true_and, R_117_0, R_117_3, R_117_9, R_117_18, R_117_27, R_117_30, R_117_32, R_117_38, CH_117_24_20, CH_117_24_21, CH_117_24_22]
    · simp (disch := first | omega | exact q_b_01 _) only [↓reduceIte, q_bk0, q_bk1, q_bk2, q_sg_b, q_b_0, q_b_n0, q_b_1, q_b_n1, q_b_T, q_b_F, q_sg_g, q_sg_sg, q_sg_xs, q_sg_id, q_gu_ne, q_gu_eq, q_g_fne, q_g_cpe, q_w_f, q_v_f, q_u_f, q_fn_f, q_cp_f, q_sg_pg, q_sg_hc, q_lt_t, q_lt_f, q_le_t, q_le_f, q_eq_t, q_eq_f, ne_eq, eq_self, Bool.false_eq_true, Bool.true_eq_false, not_true_eq_false, not_false_eq_true, true_and, and_true, false_and, and_false, true_or, or_true, false_or, or_false, if_true, if_false, Int.reduceAdd, Int.reduceMul, Int.reduceSub, Int.reduceNeg, t0, t1, c0, c1, eqw, decide_true, decide_false, Bool.false_and, Bool.and_false, Bool.and_true, Bool.true_and, R_117_0, R_117_3, R_117_9, R_117_18, R_117_27, R_117_30, R_117_32, R_117_38, CH_117_24_20, CH_117_24_21]
  · simp (disch := first | omega | exact q_b_01 _) only [↓reduceIte, q_bk0, q_bk1, q_bk2, q_sg_b, q_b_0, q_b_n0, q_b_1, q_b_n1, q_b_T, q_b_F, q_sg_g, q_sg_sg, q_sg_xs, q_sg_id, q_gu_ne, q_gu_eq, q_g_fne, q_g_cpe, q_w_f, q_v_f, q_u_f, q_fn_f, q_cp_f, q_sg_pg, q_sg_hc, q_lt_t, q_lt_f, q_le_t, q_le_f, q_eq_t, q_eq_f, ne_eq, eq_self, Bool.false_eq_true, Bool.true_eq_false, not_true_eq_false, not_false_eq_true, true_and, and_true, false_and, and_false, true_or, or_true, false_or, or_false, if_true, if_false, Int.reduceAdd, Int.reduceMul, Int.reduceSub, Int.reduceNeg, t0, c0, eqw, decide_true, decide_false, Bool.false_and, Bool.and_false, Bool.and_true, Bool.true_and, R_117_0, R_117_3, R_117_9, R_117_18, R_117_27, R_117_30, R_117_32, R_117_38, CH_117_24_20]
theorem ws_4 {b e : Int} (b0 : 0 ≤ b) (be : b < e) (e1 : e ≤ 400) (hT : ∀ j, b ≤ j → j < e → q_g s 3 j = T j) : EV (d + 9) 116 8 [.ref 2, .int (q_I (b)), .int (q_I (e)), .int (q_I (4)), .int (q_I (20)), .int (q_I (20))] [] (q_h L xs s O c) = if e - b = 4 ∧ eqw T b [99, 111, 115, 116] = true then some (.inl (some (.int (q_I (4)))), q_h L xs (s) O c) else EV (d + 9) 116 8 [.ref 2, .int (q_I (b)), .int (q_I (e)), .int (q_I (5)), .int (q_I (25)), .int (q_I (25))] [] (q_h L xs s O c) := by
  rw [R_116_8]
  simp (disch := first | omega | exact q_b_01 _) only [↓reduceIte, q_bk0, q_bk1, q_bk2, q_sg_b, q_b_0, q_b_n0, q_b_1, q_b_n1, q_b_T, q_b_F, q_sg_g, q_sg_sg, q_sg_xs, q_sg_id, q_gu_ne, q_gu_eq, q_g_fne, q_g_cpe, q_w_f, q_v_f, q_u_f, q_fn_f, q_cp_f, q_sg_pg, q_sg_hc, q_lt_t, q_lt_f, q_le_t, q_le_f, q_eq_t, q_eq_f, ne_eq, eq_self, Bool.false_eq_true, Bool.true_eq_false, not_true_eq_false, not_false_eq_true, true_and, and_true, false_and, and_false, true_or, or_true, false_or, or_false, if_true, if_false, Int.reduceAdd, Int.reduceMul, Int.reduceSub, Int.reduceNeg, R_116_0, R_116_15, R_116_18, R_116_25, R_116_28, R_116_35, R_116_40, R_116_51, R_116_63, R_116_66, R_116_68, R_116_77, R_116_83, C_116_60, LN_116_12, LN_116_22, CH_116_32_20]
  rw [R_116_8]
  simp (disch := first | omega | exact q_b_01 _) only [↓reduceIte, q_bk0, q_bk1, q_bk2, q_sg_b, q_b_0, q_b_n0, q_b_1, q_b_n1, q_b_T, q_b_F, q_sg_g, q_sg_sg, q_sg_xs, q_sg_id, q_gu_ne, q_gu_eq, q_g_fne, q_g_cpe, q_w_f, q_v_f, q_u_f, q_fn_f, q_cp_f, q_sg_pg, q_sg_hc, q_lt_t, q_lt_f, q_le_t, q_le_f, q_eq_t, q_eq_f, ne_eq, eq_self, Bool.false_eq_true, Bool.true_eq_false, not_true_eq_false, not_false_eq_true, true_and, and_true, false_and, and_false, true_or, or_true, false_or, or_false, if_true, if_false, Int.reduceAdd, Int.reduceMul, Int.reduceSub, Int.reduceNeg, R_116_0, R_116_15, R_116_18, R_116_25, R_116_28, R_116_35, R_116_40, R_116_51, R_116_63, R_116_66, R_116_68, R_116_77, R_116_83, C_116_60, LN_116_12, LN_116_22, CH_116_32_21]
  rw [R_116_8]
  simp (disch := first | omega | exact q_b_01 _) only [↓reduceIte, q_bk0, q_bk1, q_bk2, q_sg_b, q_b_0, q_b_n0, q_b_1, q_b_n1, q_b_T, q_b_F, q_sg_g, q_sg_sg, q_sg_xs, q_sg_id, q_gu_ne, q_gu_eq, q_g_fne, q_g_cpe, q_w_f, q_v_f, q_u_f, q_fn_f, q_cp_f, q_sg_pg, q_sg_hc, q_lt_t, q_lt_f, q_le_t, q_le_f, q_eq_t, q_eq_f, ne_eq, eq_self, Bool.false_eq_true, Bool.true_eq_false, not_true_eq_false, not_false_eq_true, true_and, and_true, false_and, and_false, true_or, or_true, false_or, or_false, if_true, if_false, Int.reduceAdd, Int.reduceMul, Int.reduceSub, Int.reduceNeg, R_116_0, R_116_15, R_116_18, R_116_25, R_116_28, R_116_35, R_116_40, R_116_51, R_116_63, R_116_66, R_116_68, R_116_77, R_116_83, C_116_60, LN_116_12, LN_116_22, CH_116_32_22]
  rw [R_116_8]
  simp (disch := first | omega | exact q_b_01 _) only [↓reduceIte, q_bk0, q_bk1, q_bk2, q_sg_b, q_b_0, q_b_n0, q_b_1, q_b_n1, q_b_T, q_b_F, q_sg_g, q_sg_sg, q_sg_xs, q_sg_id, q_gu_ne, q_gu_eq, q_g_fne, q_g_cpe, q_w_f, q_v_f, q_u_f, q_fn_f, q_cp_f, q_sg_pg, q_sg_hc, q_lt_t, q_lt_f, q_le_t, q_le_f, q_eq_t, q_eq_f, ne_eq, eq_self, Bool.false_eq_true, Bool.true_eq_false, not_true_eq_false, not_false_eq_true, true_and, and_true, false_and, and_false, true_or, or_true, false_or, or_false, if_true, if_false, Int.reduceAdd, Int.reduceMul, Int.reduceSub, Int.reduceNeg, R_116_0, R_116_15, R_116_18, R_116_25, R_116_28, R_116_35, R_116_40, R_116_51, R_116_63, R_116_66, R_116_68, R_116_77, R_116_83, C_116_60, LN_116_12, LN_116_22, CH_116_32_23]
  rw [R_116_8]
  by_cases c1 : e - b = 4
  · have sm := sm_4 (d := d) (L := L) (xs := xs) (s := s) (O := O) (c := c) (T := T) b0 (by omega) (fun j h1 h2 => hT j h1 (by omega))
    by_cases c2 : eqw T b [99, 111, 115, 116] = true
    · rw [if_pos ⟨c1, c2⟩]
      rw [q_bt c2] at sm
      simp (disch := first | omega | exact q_b_01 _) only [↓reduceIte, q_bk0, q_bk1, q_bk2, q_sg_b, q_b_0, q_b_n0, q_b_1, q_b_n1, q_b_T, q_b_F, q_sg_g, q_sg_sg, q_sg_xs, q_sg_id, q_gu_ne, q_gu_eq, q_g_fne, q_g_cpe, q_w_f, q_v_f, q_u_f, q_fn_f, q_cp_f, q_sg_pg, q_sg_hc, q_lt_t, q_lt_f, q_le_t, q_le_f, q_eq_t, q_eq_f, ne_eq, eq_self, Bool.false_eq_true, Bool.true_eq_false, not_true_eq_false, not_false_eq_true, true_and, and_true, false_and, and_false, true_or, or_true, false_or, or_false, if_true, if_false, Int.reduceAdd, Int.reduceMul, Int.reduceSub, Int.reduceNeg, sm, R_116_0, R_116_15, R_116_18, R_116_25, R_116_28, R_116_35, R_116_40, R_116_51, R_116_63, R_116_66, R_116_68, R_116_77, R_116_83, C_116_60, LN_116_12, LN_116_22, CH_116_32_24]
    · rw [if_neg (fun h => c2 h.2)]
      rw [q_bf c2] at sm
      simp (disch := first | omega | exact q_b_01 _) only [↓reduceIte, q_bk0, q_bk1, q_bk2, q_sg_b, q_b_0, q_b_n0, q_b_1, q_b_n1, q_b_T, q_b_F, q_sg_g, q_sg_sg, q_sg_xs, q_sg_id, q_gu_ne, q_gu_eq, q_g_fne, q_g_cpe, q_w_f, q_v_f, q_u_f, q_fn_f, q_cp_f, q_sg_pg, q_sg_hc, q_lt_t, q_lt_f, q_le_t, q_le_f, q_eq_t, q_eq_f, ne_eq, eq_self, Bool.false_eq_true, Bool.true_eq_false, not_true_eq_false, not_false_eq_true, true_and, and_true, false_and, and_false, true_or, or_true, false_or, or_false, if_true, if_false, Int.reduceAdd, Int.reduceMul, Int.reduceSub, Int.reduceNeg, sm, R_116_0, R_116_15, R_116_18, R_116_25, R_116_28, R_116_35, R_116_40, R_116_51, R_116_63, R_116_66, R_116_68, R_116_77, R_116_83, C_116_60, LN_116_12, LN_116_22, CH_116_32_24]
  · rw [if_neg (fun h => c1 h.1)]
    simp (disch := first | omega | exact q_b_01 _) only [↓reduceIte, q_bk0, q_bk1, q_bk2, q_sg_b, q_b_0, q_b_n0, q_b_1, q_b_n1, q_b_T, q_b_F, q_sg_g, q_sg_sg, q_sg_xs, q_sg_id, q_gu_ne, q_gu_eq, q_g_fne, q_g_cpe, q_w_f, q_v_f, q_u_f, q_fn_f, q_cp_f, q_sg_pg, q_sg_hc, q_lt_t, q_lt_f, q_le_t, q_le_f, q_eq_t, q_eq_f, ne_eq, eq_self, Bool.false_eq_true, Bool.true_eq_false, not_true_eq_false, not_false_eq_true, true_and, and_true, false_and, and_false, true_or, or_true, false_or, or_false, if_true, if_false, Int.reduceAdd, Int.reduceMul, Int.reduceSub, Int.reduceNeg, R_116_0, R_116_15, R_116_18, R_116_25, R_116_28, R_116_35, R_116_40, R_116_51, R_116_63, R_116_66, R_116_68, R_116_77, R_116_83, C_116_60, LN_116_12, LN_116_22, CH_116_32_24]
theorem sm_5 {b : Int} (b0 : 0 ≤ b) (b1 : b + 2 ≤ 400) (hT : ∀ j, b ≤ j → j < b + 2 → q_g s 3 j = T j) : EV (d + 8) 117 0 [.ref 2, .int (q_I b), .int (q_I 25), .int (q_I 2), .null] [] (q_h L xs s O c) = some (.inl (some (.int (q_I (q_b (eqw T b [105, 102] = true))))), q_h L xs (s) O c) := by
  have t0 : q_g s 3 (b + 0) = T b := by
    rw [hT (b + 0) (by omega) (by omega)]
    rw [Int.add_zero]
  have t1 : q_g s 3 (b + 1) = T (b + 1) := by
    rw [hT (b + 1) (by omega) (by omega)]
  have r0 := q_g_rg s 3 (b + 0)
  rw [t0] at r0
  have r1 := q_g_rg s 3 (b + 1)
  rw [t1] at r1
  by_cases c0 : T b = 105
  · skip
    by_cases c1 : T (b + 1) = 102
    · simp (disch := first | omega | exact q_b_01 _) only [↓reduceIte, q_bk0, q_bk1, q_bk2, q_sg_b, q_b_0, q_b_n0, q_b_1, q_b_n1, q_b_T, q_b_F, q_sg_g, q_sg_sg, q_sg_xs, q_sg_id, q_gu_ne, q_gu_eq, q_g_fne, q_g_cpe, q_w_f, q_v_f, q_u_f, q_fn_f, q_cp_f, q_sg_pg, q_sg_hc, q_lt_t, q_lt_f, q_le_t, q_le_f, q_eq_t, q_eq_f, ne_eq, eq_self, Bool.false_eq_true, Bool.true_eq_false, not_true_eq_false, not_false_eq_true, true_and, and_true, false_and, and_false, true_or, or_true, false_or, or_false, if_true, if_false, Int.reduceAdd, Int.reduceMul, Int.reduceSub, Int.reduceNeg, t0, t1, c0, c1, eqw, decide_true, Bool.and_self, Bool.and_true, Bool.true_and, R_117_0, R_117_3, R_117_9, R_117_18, R_117_27, R_117_30, R_117_32, R_117_38, CH_117_24_25, CH_117_24_26]
    · simp (disch := first | omega | exact q_b_01 _) only [↓reduceIte, q_bk0, q_bk1, q_bk2, q_sg_b, q_b_0, q_b_n0, q_b_1, q_b_n1, q_b_T, q_b_F, q_sg_g, q_sg_sg, q_sg_xs, q_sg_id, q_gu_ne, q_gu_eq, q_g_fne, q_g_cpe, q_w_f, q_v_f, q_u_f, q_fn_f, q_cp_f, q_sg_pg, q_sg_hc, q_lt_t, q_lt_f, q_le_t, q_le_f, q_eq_t, q_eq_f, ne_eq, eq_self, Bool.false_eq_true, Bool.true_eq_false, not_true_eq_false, not_false_eq_true, true_and, and_true, false_and, and_false, true_or, or_true, false_or, or_false, if_true, if_false, Int.reduceAdd, Int.reduceMul, Int.reduceSub, Int.reduceNeg, t0, t1, c0, c1, eqw, decide_true, decide_false, Bool.false_and, Bool.and_false, Bool.and_true, Bool.true_and, R_117_0, R_117_3, R_117_9, R_117_18, R_117_27, R_117_30, R_117_32, R_117_38, CH_117_24_25, CH_117_24_26]
  · simp (disch := first | omega | exact q_b_01 _) only [↓reduceIte, q_bk0, q_bk1, q_bk2, q_sg_b, q_b_0, q_b_n0, q_b_1, q_b_n1, q_b_T, q_b_F, q_sg_g, q_sg_sg, q_sg_xs, q_sg_id, q_gu_ne, q_gu_eq, q_g_fne, q_g_cpe, q_w_f, q_v_f, q_u_f, q_fn_f, q_cp_f, q_sg_pg, q_sg_hc, q_lt_t, q_lt_f, q_le_t, q_le_f, q_eq_t, q_eq_f, ne_eq, eq_self, Bool.false_eq_true, Bool.true_eq_false, not_true_eq_false, not_false_eq_true, true_and, and_true, false_and, and_false, true_or, or_true, false_or, or_false, if_true, if_false, Int.reduceAdd, Int.reduceMul, Int.reduceSub, Int.reduceNeg, t0, c0, eqw, decide_true, decide_false, Bool.false_and, Bool.and_false, Bool.and_true, Bool.true_and, R_117_0, R_117_3, R_117_9, R_117_18, R_117_27, R_117_30, R_117_32, R_117_38, CH_117_24_25]
theorem ws_5 {b e : Int} (b0 : 0 ≤ b) (be : b < e) (e1 : e ≤ 400) (hT : ∀ j, b ≤ j → j < e → q_g s 3 j = T j) : EV (d + 9) 116 8 [.ref 2, .int (q_I (b)), .int (q_I (e)), .int (q_I (5)), .int (q_I (25)), .int (q_I (25))] [] (q_h L xs s O c) = if e - b = 2 ∧ eqw T b [105, 102] = true then some (.inl (some (.int (q_I (5)))), q_h L xs (s) O c) else EV (d + 9) 116 8 [.ref 2, .int (q_I (b)), .int (q_I (e)), .int (q_I (6)), .int (q_I (28)), .int (q_I (28))] [] (q_h L xs s O c) := by
  rw [R_116_8]
  simp (disch := first | omega | exact q_b_01 _) only [↓reduceIte, q_bk0, q_bk1, q_bk2, q_sg_b, q_b_0, q_b_n0, q_b_1, q_b_n1, q_b_T, q_b_F, q_sg_g, q_sg_sg, q_sg_xs, q_sg_id, q_gu_ne, q_gu_eq, q_g_fne, q_g_cpe, q_w_f, q_v_f, q_u_f, q_fn_f, q_cp_f, q_sg_pg, q_sg_hc, q_lt_t, q_lt_f, q_le_t, q_le_f, q_eq_t, q_eq_f, ne_eq, eq_self, Bool.false_eq_true, Bool.true_eq_false, not_true_eq_false, not_false_eq_true, true_and, and_true, false_and, and_false, true_or, or_true, false_or, or_false, if_true, if_false, Int.reduceAdd, Int.reduceMul, Int.reduceSub, Int.reduceNeg, R_116_0, R_116_15, R_116_18, R_116_25, R_116_28, R_116_35, R_116_40, R_116_51, R_116_63, R_116_66, R_116_68, R_116_77, R_116_83, C_116_60, LN_116_12, LN_116_22, CH_116_32_25]
  rw [R_116_8]
  simp (disch := first | omega | exact q_b_01 _) only [↓reduceIte, q_bk0, q_bk1, q_bk2, q_sg_b, q_b_0, q_b_n0, q_b_1, q_b_n1, q_b_T, q_b_F, q_sg_g, q_sg_sg, q_sg_xs, q_sg_id, q_gu_ne, q_gu_eq, q_g_fne, q_g_cpe, q_w_f, q_v_f, q_u_f, q_fn_f, q_cp_f, q_sg_pg, q_sg_hc, q_lt_t, q_lt_f, q_le_t, q_le_f, q_eq_t, q_eq_f, ne_eq, eq_self, Bool.false_eq_true, Bool.true_eq_false, not_true_eq_false, not_false_eq_true, true_and, and_true, false_and, and_false, true_or, or_true, false_or, or_false, if_true, if_false, Int.reduceAdd, Int.reduceMul, Int.reduceSub, Int.reduceNeg, R_116_0, R_116_15, R_116_18, R_116_25, R_116_28, R_116_35, R_116_40, R_116_51, R_116_63, R_116_66, R_116_68, R_116_77, R_116_83, C_116_60, LN_116_12, LN_116_22, CH_116_32_26]
  rw [R_116_8]
  by_cases c1 : e - b = 2
  · have sm := sm_5 (d := d) (L := L) (xs := xs) (s := s) (O := O) (c := c) (T := T) b0 (by omega) (fun j h1 h2 => hT j h1 (by omega))
    by_cases c2 : eqw T b [105, 102] = true
    · rw [if_pos ⟨c1, c2⟩]
      rw [q_bt c2] at sm
      simp (disch := first | omega | exact q_b_01 _) only [↓reduceIte, q_bk0, q_bk1, q_bk2, q_sg_b, q_b_0, q_b_n0, q_b_1, q_b_n1, q_b_T, q_b_F, q_sg_g, q_sg_sg, q_sg_xs, q_sg_id, q_gu_ne, q_gu_eq, q_g_fne, q_g_cpe, q_w_f, q_v_f, q_u_f, q_fn_f, q_cp_f, q_sg_pg, q_sg_hc, q_lt_t, q_lt_f, q_le_t, q_le_f, q_eq_t, q_eq_f, ne_eq, eq_self, Bool.false_eq_true, Bool.true_eq_false, not_true_eq_false, not_false_eq_true, true_and, and_true, false_and, and_false, true_or, or_true, false_or, or_false, if_true, if_false, Int.reduceAdd, Int.reduceMul, Int.reduceSub, Int.reduceNeg, sm, R_116_0, R_116_15, R_116_18, R_116_25, R_116_28, R_116_35, R_116_40, R_116_51, R_116_63, R_116_66, R_116_68, R_116_77, R_116_83, C_116_60, LN_116_12, LN_116_22, CH_116_32_27]
    · rw [if_neg (fun h => c2 h.2)]
      rw [q_bf c2] at sm
      simp (disch := first | omega | exact q_b_01 _) only [↓reduceIte, q_bk0, q_bk1, q_bk2, q_sg_b, q_b_0, q_b_n0, q_b_1, q_b_n1, q_b_T, q_b_F, q_sg_g, q_sg_sg, q_sg_xs, q_sg_id, q_gu_ne, q_gu_eq, q_g_fne, q_g_cpe, q_w_f, q_v_f, q_u_f, q_fn_f, q_cp_f, q_sg_pg, q_sg_hc, q_lt_t, q_lt_f, q_le_t, q_le_f, q_eq_t, q_eq_f, ne_eq, eq_self, Bool.false_eq_true, Bool.true_eq_false, not_true_eq_false, not_false_eq_true, true_and, and_true, false_and, and_false, true_or, or_true, false_or, or_false, if_true, if_false, Int.reduceAdd, Int.reduceMul, Int.reduceSub, Int.reduceNeg, sm, R_116_0, R_116_15, R_116_18, R_116_25, R_116_28, R_116_35, R_116_40, R_116_51, R_116_63, R_116_66, R_116_68, R_116_77, R_116_83, C_116_60, LN_116_12, LN_116_22, CH_116_32_27]
  · rw [if_neg (fun h => c1 h.1)]
    simp (disch := first | omega | exact q_b_01 _) only [↓reduceIte, q_bk0, q_bk1, q_bk2, q_sg_b, q_b_0, q_b_n0, q_b_1, q_b_n1, q_b_T, q_b_F, q_sg_g, q_sg_sg, q_sg_xs, q_sg_id, q_gu_ne, q_gu_eq, q_g_fne, q_g_cpe, q_w_f, q_v_f, q_u_f, q_fn_f, q_cp_f, q_sg_pg, q_sg_hc, q_lt_t, q_lt_f, q_le_t, q_le_f, q_eq_t, q_eq_f, ne_eq, eq_self, Bool.false_eq_true, Bool.true_eq_false, not_true_eq_false, not_false_eq_true, true_and, and_true, false_and, and_false, true_or, or_true, false_or, or_false, if_true, if_false, Int.reduceAdd, Int.reduceMul, Int.reduceSub, Int.reduceNeg, R_116_0, R_116_15, R_116_18, R_116_25, R_116_28, R_116_35, R_116_40, R_116_51, R_116_63, R_116_66, R_116_68, R_116_77, R_116_83, C_116_60, LN_116_12, LN_116_22, CH_116_32_27]
theorem sm_6 {b : Int} (b0 : 0 ≤ b) (b1 : b + 2 ≤ 400) (hT : ∀ j, b ≤ j → j < b + 2 → q_g s 3 j = T j) : EV (d + 8) 117 0 [.ref 2, .int (q_I b), .int (q_I 28), .int (q_I 2), .null] [] (q_h L xs s O c) = some (.inl (some (.int (q_I (q_b (eqw T b [111, 114] = true))))), q_h L xs (s) O c) := by
  have t0 : q_g s 3 (b + 0) = T b := by
    rw [hT (b + 0) (by omega) (by omega)]
    rw [Int.add_zero]
  have t1 : q_g s 3 (b + 1) = T (b + 1) := by
    rw [hT (b + 1) (by omega) (by omega)]
  have r0 := q_g_rg s 3 (b + 0)
  rw [t0] at r0
  have r1 := q_g_rg s 3 (b + 1)
  rw [t1] at r1
  by_cases c0 : T b = 111
  · skip
    by_cases c1 : T (b + 1) = 114
    · simp (disch := first | omega | exact q_b_01 _) only [↓reduceIte, q_bk0, q_bk1, q_bk2, q_sg_b, q_b_0, q_b_n0, q_b_1, q_b_n1, q_b_T, q_b_F, q_sg_g, q_sg_sg, q_sg_xs, q_sg_id, q_gu_ne, q_gu_eq, q_g_fne, q_g_cpe, q_w_f, q_v_f, q_u_f, q_fn_f, q_cp_f, q_sg_pg, q_sg_hc, q_lt_t, q_lt_f, q_le_t, q_le_f, q_eq_t, q_eq_f, ne_eq, eq_self, Bool.false_eq_true, Bool.true_eq_false, not_true_eq_false, not_false_eq_true, true_and, and_true, false_and, and_false, true_or, or_true, false_or, or_false, if_true, if_false, Int.reduceAdd, Int.reduceMul, Int.reduceSub, Int.reduceNeg, t0, t1, c0, c1, eqw, decide_true, Bool.and_self, Bool.and_true, Bool.true_and, R_117_0, R_117_3, R_117_9, R_117_18, R_117_27, R_117_30, R_117_32, R_117_38, CH_117_24_28, CH_117_24_29]
    · simp (disch := first | omega | exact q_b_01 _) only [↓reduceIte, q_bk0, q_bk1, q_bk2, q_sg_b, q_b_0, q_b_n0, q_b_1, q_b_n1, q_b_T, q_b_F, q_sg_g, q_sg_sg, q_sg_xs, q_sg_id, q_gu_ne, q_gu_eq, q_g_fne, q_g_cpe, q_w_f, q_v_f, q_u_f, q_fn_f, q_cp_f, q_sg_pg, q_sg_hc, q_lt_t, q_lt_f, q_le_t, q_le_f, q_eq_t, q_eq_f, ne_eq, eq_self, Bool.false_eq_true, Bool.true_eq_false, not_true_eq_false, not_false_eq_true, true_and, and_true, false_and, and_false, true_or, or_true, false_or, or_false, if_true, if_false, Int.reduceAdd, Int.reduceMul, Int.reduceSub, Int.reduceNeg, t0, t1, c0, c1, eqw, decide_true, decide_false, Bool.false_and, Bool.and_false, Bool.and_true, Bool.true_and, R_117_0, R_117_3, R_117_9, R_117_18, R_117_27, R_117_30, R_117_32, R_117_38, CH_117_24_28, CH_117_24_29]
  · simp (disch := first | omega | exact q_b_01 _) only [↓reduceIte, q_bk0, q_bk1, q_bk2, q_sg_b, q_b_0, q_b_n0, q_b_1, q_b_n1, q_b_T, q_b_F, q_sg_g, q_sg_sg, q_sg_xs, q_sg_id, q_gu_ne, q_gu_eq, q_g_fne, q_g_cpe, q_w_f, q_v_f, q_u_f, q_fn_f, q_cp_f, q_sg_pg, q_sg_hc, q_lt_t, q_lt_f, q_le_t, q_le_f, q_eq_t, q_eq_f, ne_eq, eq_self, Bool.false_eq_true, Bool.true_eq_false, not_true_eq_false, not_false_eq_true, true_and, and_true, false_and, and_false, true_or, or_true, false_or, or_false, if_true, if_false, Int.reduceAdd, Int.reduceMul, Int.reduceSub, Int.reduceNeg, t0, c0, eqw, decide_true, decide_false, Bool.false_and, Bool.and_false, Bool.and_true, Bool.true_and, R_117_0, R_117_3, R_117_9, R_117_18, R_117_27, R_117_30, R_117_32, R_117_38, CH_117_24_28]
theorem ws_6 {b e : Int} (b0 : 0 ≤ b) (be : b < e) (e1 : e ≤ 400) (hT : ∀ j, b ≤ j → j < e → q_g s 3 j = T j) : EV (d + 9) 116 8 [.ref 2, .int (q_I (b)), .int (q_I (e)), .int (q_I (6)), .int (q_I (28)), .int (q_I (28))] [] (q_h L xs s O c) = if e - b = 2 ∧ eqw T b [111, 114] = true then some (.inl (some (.int (q_I (6)))), q_h L xs (s) O c) else EV (d + 9) 116 8 [.ref 2, .int (q_I (b)), .int (q_I (e)), .int (q_I (7)), .int (q_I (31)), .int (q_I (31))] [] (q_h L xs s O c) := by
  rw [R_116_8]
  simp (disch := first | omega | exact q_b_01 _) only [↓reduceIte, q_bk0, q_bk1, q_bk2, q_sg_b, q_b_0, q_b_n0, q_b_1, q_b_n1, q_b_T, q_b_F, q_sg_g, q_sg_sg, q_sg_xs, q_sg_id, q_gu_ne, q_gu_eq, q_g_fne, q_g_cpe, q_w_f, q_v_f, q_u_f, q_fn_f, q_cp_f, q_sg_pg, q_sg_hc, q_lt_t, q_lt_f, q_le_t, q_le_f, q_eq_t, q_eq_f, ne_eq, eq_self, Bool.false_eq_true, Bool.true_eq_false, not_true_eq_false, not_false_eq_true, true_and, and_true, false_and, and_false, true_or, or_true, false_or, or_false, if_true, if_false, Int.reduceAdd, Int.reduceMul, Int.reduceSub, Int.reduceNeg, R_116_0, R_116_15, R_116_18, R_116_25, R_116_28, R_116_35, R_116_40, R_116_51, R_116_63, R_116_66, R_116_68, R_116_77, R_116_83, C_116_60, LN_116_12, LN_116_22, CH_116_32_28]
  rw [R_116_8]
  simp (disch := first | omega | exact q_b_01 _) only [↓reduceIte, q_bk0, q_bk1, q_bk2, q_sg_b, q_b_0, q_b_n0, q_b_1, q_b_n1, q_b_T, q_b_F, q_sg_g, q_sg_sg, q_sg_xs, q_sg_id, q_gu_ne, q_gu_eq, q_g_fne, q_g_cpe, q_w_f, q_v_f, q_u_f, q_fn_f, q_cp_f, q_sg_pg, q_sg_hc, q_lt_t, q_lt_f, q_le_t, q_le_f, q_eq_t, q_eq_f, ne_eq, eq_self, Bool.false_eq_true, Bool.true_eq_false, not_true_eq_false, not_false_eq_true, true_and, and_true, false_and, and_false, true_or, or_true, false_or, or_false, if_true, if_false, Int.reduceAdd, Int.reduceMul, Int.reduceSub, Int.reduceNeg, R_116_0, R_116_15, R_116_18, R_116_25, R_116_28, R_116_35, R_116_40, R_116_51, R_116_63, R_116_66, R_116_68, R_116_77, R_116_83, C_116_60, LN_116_12, LN_116_22, CH_116_32_29]
  rw [R_116_8]
  by_cases c1 : e - b = 2
  · have sm := sm_6 (d := d) (L := L) (xs := xs) (s := s) (O := O) (c := c) (T := T) b0 (by omega) (fun j h1 h2 => hT j h1 (by omega))
    by_cases c2 : eqw T b [111, 114] = true
    · rw [if_pos ⟨c1, c2⟩]
      rw [q_bt c2] at sm
      simp (disch := first | omega | exact q_b_01 _) only [↓reduceIte, q_bk0, q_bk1, q_bk2, q_sg_b, q_b_0, q_b_n0, q_b_1, q_b_n1, q_b_T, q_b_F, q_sg_g, q_sg_sg, q_sg_xs, q_sg_id, q_gu_ne, q_gu_eq, q_g_fne, q_g_cpe, q_w_f, q_v_f, q_u_f, q_fn_f, q_cp_f, q_sg_pg, q_sg_hc, q_lt_t, q_lt_f, q_le_t, q_le_f, q_eq_t, q_eq_f, ne_eq, eq_self, Bool.false_eq_true, Bool.true_eq_false, not_true_eq_false, not_false_eq_true, true_and, and_true, false_and, and_false, true_or, or_true, false_or, or_false, if_true, if_false, Int.reduceAdd, Int.reduceMul, Int.reduceSub, Int.reduceNeg, sm, R_116_0, R_116_15, R_116_18, R_116_25, R_116_28, R_116_35, R_116_40, R_116_51, R_116_63, R_116_66, R_116_68, R_116_77, R_116_83, C_116_60, LN_116_12, LN_116_22, CH_116_32_30]
    · rw [if_neg (fun h => c2 h.2)]
      rw [q_bf c2] at sm
      simp (disch := first | omega | exact q_b_01 _) only [↓reduceIte, q_bk0, q_bk1, q_bk2, q_sg_b, q_b_0, q_b_n0, q_b_1, q_b_n1, q_b_T, q_b_F, q_sg_g, q_sg_sg, q_sg_xs, q_sg_id, q_gu_ne, q_gu_eq, q_g_fne, q_g_cpe, q_w_f, q_v_f, q_u_f, q_fn_f, q_cp_f, q_sg_pg, q_sg_hc, q_lt_t, q_lt_f, q_le_t, q_le_f, q_eq_t, q_eq_f, ne_eq, eq_self, Bool.false_eq_true, Bool.true_eq_false, not_true_eq_false, not_false_eq_true, true_and, and_true, false_and, and_false, true_or, or_true, false_or, or_false, if_true, if_false, Int.reduceAdd, Int.reduceMul, Int.reduceSub, Int.reduceNeg, sm, R_116_0, R_116_15, R_116_18, R_116_25, R_116_28, R_116_35, R_116_40, R_116_51, R_116_63, R_116_66, R_116_68, R_116_77, R_116_83, C_116_60, LN_116_12, LN_116_22, CH_116_32_30]
  · rw [if_neg (fun h => c1 h.1)]
    simp (disch := first | omega | exact q_b_01 _) only [↓reduceIte, q_bk0, q_bk1, q_bk2, q_sg_b, q_b_0, q_b_n0, q_b_1, q_b_n1, q_b_T, q_b_F, q_sg_g, q_sg_sg, q_sg_xs, q_sg_id, q_gu_ne, q_gu_eq, q_g_fne, q_g_cpe, q_w_f, q_v_f, q_u_f, q_fn_f, q_cp_f, q_sg_pg, q_sg_hc, q_lt_t, q_lt_f, q_le_t, q_le_f, q_eq_t, q_eq_f, ne_eq, eq_self, Bool.false_eq_true, Bool.true_eq_false, not_true_eq_false, not_false_eq_true, true_and, and_true, false_and, and_false, true_or, or_true, false_or, or_false, if_true, if_false, Int.reduceAdd, Int.reduceMul, Int.reduceSub, Int.reduceNeg, R_116_0, R_116_15, R_116_18, R_116_25, R_116_28, R_116_35, R_116_40, R_116_51, R_116_63, R_116_66, R_116_68, R_116_77, R_116_83, C_116_60, LN_116_12, LN_116_22, CH_116_32_30]
theorem sm_7 {b : Int} (b0 : 0 ≤ b) (b1 : b + 3 ≤ 400) (hT : ∀ j, b ≤ j → j < b + 3 → q_g s 3 j = T j) : EV (d + 8) 117 0 [.ref 2, .int (q_I b), .int (q_I 31), .int (q_I 3), .null] [] (q_h L xs s O c) = some (.inl (some (.int (q_I (q_b (eqw T b [97, 110, 100] = true))))), q_h L xs (s) O c) := by
  have t0 : q_g s 3 (b + 0) = T b := by
    rw [hT (b + 0) (by omega) (by omega)]
    rw [Int.add_zero]
  have t1 : q_g s 3 (b + 1) = T (b + 1) := by
    rw [hT (b + 1) (by omega) (by omega)]
  have t2 : q_g s 3 (b + 2) = T (b + 1 + 1) := by
    rw [hT (b + 2) (by omega) (by omega)]
    rw [show b + 1 + 1 = b + 2 by omega]
  have r0 := q_g_rg s 3 (b + 0)
  rw [t0] at r0
  have r1 := q_g_rg s 3 (b + 1)
  rw [t1] at r1
  have r2 := q_g_rg s 3 (b + 2)
  rw [t2] at r2
  by_cases c0 : T b = 97
  · skip
    by_cases c1 : T (b + 1) = 110
    · skip
      by_cases c2 : T (b + 1 + 1) = 100
      · simp (disch := first | omega | exact q_b_01 _) only [↓reduceIte, q_bk0, q_bk1, q_bk2, q_sg_b, q_b_0, q_b_n0, q_b_1, q_b_n1, q_b_T, q_b_F, q_sg_g, q_sg_sg, q_sg_xs, q_sg_id, q_gu_ne, q_gu_eq, q_g_fne, q_g_cpe, q_w_f, q_v_f, q_u_f, q_fn_f, q_cp_f, q_sg_pg, q_sg_hc, q_lt_t, q_lt_f, q_le_t, q_le_f, q_eq_t, q_eq_f, ne_eq, eq_self, Bool.false_eq_true, Bool.true_eq_false, not_true_eq_false, not_false_eq_true, true_and, and_true, false_and, and_false, true_or, or_true, false_or, or_false, if_true, if_false, Int.reduceAdd, Int.reduceMul, Int.reduceSub, Int.reduceNeg, t0, t1, t2, c0, c1, c2, eqw, decide_true, Bool.and_self, Bool.and_true, Bool.true_and, R_117_0, R_117_3, R_117_9, R_117_18, R_117_27, R_117_30, R_117_32, R_117_38, CH_117_24_31, CH_117_24_32, CH_117_24_33]
      · simp (disch := first | omega | exact q_b_01 _) only [↓reduceIte, q_bk0, q_bk1, q_bk2, q_sg_b, q_b_0, q_b_n0, q_b_1, q_b_n1, q_b_T, q_b_F, q_sg_g, q_sg_sg, q_sg_xs, q_sg_id, q_gu_ne, q_gu_eq, q_g_fne, q_g_cpe, q_w_f, q_v_f, q_u_f, q_fn_f, q_cp_f, q_sg_pg, q_sg_hc, q_lt_t, q_lt_f, q_le_t, q_le_f, q_eq_t, q_eq_f, ne_eq, eq_self, Bool.false_eq_true, Bool.true_eq_false, not_true_eq_false, not_false_eq_true, true_and, and_true, false_and, and_false, true_or, or_true, false_or, or_false, if_true, if_false, Int.reduceAdd, Int.reduceMul, Int.reduceSub, Int.reduceNeg, t0, t1, t2, c0, c1, c2, eqw, decide_true, decide_false, Bool.false_and, Bool.and_false, Bool.and_true, Bool.true_and, R_117_0, R_117_3, R_117_9, R_117_18, R_117_27, R_117_30, R_117_32, R_117_38, CH_117_24_31, CH_117_24_32, CH_117_24_33]
    · simp (disch := first | omega | exact q_b_01 _) only [↓reduceIte, q_bk0, q_bk1, q_bk2, q_sg_b, q_b_0, q_b_n0, q_b_1, q_b_n1, q_b_T, q_b_F, q_sg_g, q_sg_sg, q_sg_xs, q_sg_id, q_gu_ne, q_gu_eq, q_g_fne, q_g_cpe, q_w_f, q_v_f, q_u_f, q_fn_f, q_cp_f, q_sg_pg, q_sg_hc, q_lt_t, q_lt_f, q_le_t, q_le_f, q_eq_t, q_eq_f, ne_eq, eq_self, Bool.false_eq_true, Bool.true_eq_false, not_true_eq_false, not_false_eq_true, true_and, and_true, false_and, and_false, true_or, or_true, false_or, or_false, if_true, if_false, Int.reduceAdd, Int.reduceMul, Int.reduceSub, Int.reduceNeg, t0, t1, c0, c1, eqw, decide_true, decide_false, Bool.false_and, Bool.and_false, Bool.and_true, Bool.true_and, R_117_0, R_117_3, R_117_9, R_117_18, R_117_27, R_117_30, R_117_32, R_117_38, CH_117_24_31, CH_117_24_32]
  · simp (disch := first | omega | exact q_b_01 _) only [↓reduceIte, q_bk0, q_bk1, q_bk2, q_sg_b, q_b_0, q_b_n0, q_b_1, q_b_n1, q_b_T, q_b_F, q_sg_g, q_sg_sg, q_sg_xs, q_sg_id, q_gu_ne, q_gu_eq, q_g_fne, q_g_cpe, q_w_f, q_v_f, q_u_f, q_fn_f, q_cp_f, q_sg_pg, q_sg_hc, q_lt_t, q_lt_f, q_le_t, q_le_f, q_eq_t, q_eq_f, ne_eq, eq_self, Bool.false_eq_true, Bool.true_eq_false, not_true_eq_false, not_false_eq_true, true_and, and_true, false_and, and_false, true_or, or_true, false_or, or_false, if_true, if_false, Int.reduceAdd, Int.reduceMul, Int.reduceSub, Int.reduceNeg, t0, c0, eqw, decide_true, decide_false, Bool.false_and, Bool.and_false, Bool.and_true, Bool.true_and, R_117_0, R_117_3, R_117_9, R_117_18, R_117_27, R_117_30, R_117_32, R_117_38, CH_117_24_31]
theorem ws_7 {b e : Int} (b0 : 0 ≤ b) (be : b < e) (e1 : e ≤ 400) (hT : ∀ j, b ≤ j → j < e → q_g s 3 j = T j) : EV (d + 9) 116 8 [.ref 2, .int (q_I (b)), .int (q_I (e)), .int (q_I (7)), .int (q_I (31)), .int (q_I (31))] [] (q_h L xs s O c) = if e - b = 3 ∧ eqw T b [97, 110, 100] = true then some (.inl (some (.int (q_I (7)))), q_h L xs (s) O c) else EV (d + 9) 116 8 [.ref 2, .int (q_I (b)), .int (q_I (e)), .int (q_I (8)), .int (q_I (35)), .int (q_I (35))] [] (q_h L xs s O c) := by
  rw [R_116_8]
  simp (disch := first | omega | exact q_b_01 _) only [↓reduceIte, q_bk0, q_bk1, q_bk2, q_sg_b, q_b_0, q_b_n0, q_b_1, q_b_n1, q_b_T, q_b_F, q_sg_g, q_sg_sg, q_sg_xs, q_sg_id, q_gu_ne, q_gu_eq, q_g_fne, q_g_cpe, q_w_f, q_v_f, q_u_f, q_fn_f, q_cp_f, q_sg_pg, q_sg_hc, q_lt_t, q_lt_f, q_le_t, q_le_f, q_eq_t, q_eq_f, ne_eq, eq_self, Bool.false_eq_true, Bool.true_eq_false, not_true_eq_false, not_false_eq_true, true_and, and_true, false_and, and_false, true_or, or_true, false_or, or_false, if_true, if_false, Int.reduceAdd, Int.reduceMul, Int.reduceSub, Int.reduceNeg, R_116_0, R_116_15, R_116_18, R_116_25, R_116_28, R_116_35, R_116_40, R_116_51, R_116_63, R_116_66, R_116_68, R_116_77, R_116_83, C_116_60, LN_116_12, LN_116_22, CH_116_32_31]
  rw [R_116_8]
  simp (disch := first | omega | exact q_b_01 _) only [↓reduceIte, q_bk0, q_bk1, q_bk2, q_sg_b, q_b_0, q_b_n0, q_b_1, q_b_n1, q_b_T, q_b_F, q_sg_g, q_sg_sg, q_sg_xs, q_sg_id, q_gu_ne, q_gu_eq, q_g_fne, q_g_cpe, q_w_f, q_v_f, q_u_f, q_fn_f, q_cp_f, q_sg_pg, q_sg_hc, q_lt_t, q_lt_f, q_le_t, q_le_f, q_eq_t, q_eq_f, ne_eq, eq_self, Bool.false_eq_true, Bool.true_eq_false, not_true_eq_false, not_false_eq_true, true_and, and_true, false_and, and_false, true_or, or_true, false_or, or_false, if_true, if_false, Int.reduceAdd, Int.reduceMul, Int.reduceSub, Int.reduceNeg, R_116_0, R_116_15, R_116_18, R_116_25, R_116_28, R_116_35, R_116_40, R_116_51, R_116_63, R_116_66, R_116_68, R_116_77, R_116_83, C_116_60, LN_116_12, LN_116_22, CH_116_32_32]
  rw [R_116_8]
  simp (disch := first | omega | exact q_b_01 _) only [↓reduceIte, q_bk0, q_bk1, q_bk2, q_sg_b, q_b_0, q_b_n0, q_b_1, q_b_n1, q_b_T, q_b_F, q_sg_g, q_sg_sg, q_sg_xs, q_sg_id, q_gu_ne, q_gu_eq, q_g_fne, q_g_cpe, q_w_f, q_v_f, q_u_f, q_fn_f, q_cp_f, q_sg_pg, q_sg_hc, q_lt_t, q_lt_f, q_le_t, q_le_f, q_eq_t, q_eq_f, ne_eq, eq_self, Bool.false_eq_true, Bool.true_eq_false, not_true_eq_false, not_false_eq_true, true_and, and_true, false_and, and_false, true_or, or_true, false_or, or_false, if_true, if_false, Int.reduceAdd, Int.reduceMul, Int.reduceSub, Int.reduceNeg, R_116_0, R_116_15, R_116_18, R_116_25, R_116_28, R_116_35, R_116_40, R_116_51, R_116_63, R_116_66, R_116_68, R_116_77, R_116_83, C_116_60, LN_116_12, LN_116_22, CH_116_32_33]
  rw [R_116_8]
  by_cases c1 : e - b = 3
  · have sm := sm_7 (d := d) (L := L) (xs := xs) (s := s) (O := O) (c := c) (T := T) b0 (by omega) (fun j h1 h2 => hT j h1 (by omega))
    by_cases c2 : eqw T b [97, 110, 100] = true
    · rw [if_pos ⟨c1, c2⟩]
      rw [q_bt c2] at sm
      simp (disch := first | omega | exact q_b_01 _) only [↓reduceIte, q_bk0, q_bk1, q_bk2, q_sg_b, q_b_0, q_b_n0, q_b_1, q_b_n1, q_b_T, q_b_F, q_sg_g, q_sg_sg, q_sg_xs, q_sg_id, q_gu_ne, q_gu_eq, q_g_fne, q_g_cpe, q_w_f, q_v_f, q_u_f, q_fn_f, q_cp_f, q_sg_pg, q_sg_hc, q_lt_t, q_lt_f, q_le_t, q_le_f, q_eq_t, q_eq_f, ne_eq, eq_self, Bool.false_eq_true, Bool.true_eq_false, not_true_eq_false, not_false_eq_true, true_and, and_true, false_and, and_false, true_or, or_true, false_or, or_false, if_true, if_false, Int.reduceAdd, Int.reduceMul, Int.reduceSub, Int.reduceNeg, sm, R_116_0, R_116_15, R_116_18, R_116_25, R_116_28, R_116_35, R_116_40, R_116_51, R_116_63, R_116_66, R_116_68, R_116_77, R_116_83, C_116_60, LN_116_12, LN_116_22, CH_116_32_34]
    · rw [if_neg (fun h => c2 h.2)]
      rw [q_bf c2] at sm
      simp (disch := first | omega | exact q_b_01 _) only [↓reduceIte, q_bk0, q_bk1, q_bk2, q_sg_b, q_b_0, q_b_n0, q_b_1, q_b_n1, q_b_T, q_b_F, q_sg_g, q_sg_sg, q_sg_xs, q_sg_id, q_gu_ne, q_gu_eq, q_g_fne, q_g_cpe, q_w_f, q_v_f, q_u_f, q_fn_f, q_cp_f, q_sg_pg, q_sg_hc, q_lt_t, q_lt_f, q_le_t, q_le_f, q_eq_t, q_eq_f, ne_eq, eq_self, Bool.false_eq_true, Bool.true_eq_false, not_true_eq_false, not_false_eq_true, true_and, and_true, false_and, and_false, true_or, or_true, false_or, or_false, if_true, if_false, Int.reduceAdd, Int.reduceMul, Int.reduceSub, Int.reduceNeg, sm, R_116_0, R_116_15, R_116_18, R_116_25, R_116_28, R_116_35, R_116_40, R_116_51, R_116_63, R_116_66, R_116_68, R_116_77, R_116_83, C_116_60, LN_116_12, LN_116_22, CH_116_32_34]
  · rw [if_neg (fun h => c1 h.1)]
    simp (disch := first | omega | exact q_b_01 _) only [↓reduceIte, q_bk0, q_bk1, q_bk2, q_sg_b, q_b_0, q_b_n0, q_b_1, q_b_n1, q_b_T, q_b_F, q_sg_g, q_sg_sg, q_sg_xs, q_sg_id, q_gu_ne, q_gu_eq, q_g_fne, q_g_cpe, q_w_f, q_v_f, q_u_f, q_fn_f, q_cp_f, q_sg_pg, q_sg_hc, q_lt_t, q_lt_f, q_le_t, q_le_f, q_eq_t, q_eq_f, ne_eq, eq_self, Bool.false_eq_true, Bool.true_eq_false, not_true_eq_false, not_false_eq_true, true_and, and_true, false_and, and_false, true_or, or_true, false_or, or_false, if_true, if_false, Int.reduceAdd, Int.reduceMul, Int.reduceSub, Int.reduceNeg, R_116_0, R_116_15, R_116_18, R_116_25, R_116_28, R_116_35, R_116_40, R_116_51, R_116_63, R_116_66, R_116_68, R_116_77, R_116_83, C_116_60, LN_116_12, LN_116_22, CH_116_32_34]
theorem sm_8 {b : Int} (b0 : 0 ≤ b) (b1 : b + 3 ≤ 400) (hT : ∀ j, b ≤ j → j < b + 3 → q_g s 3 j = T j) : EV (d + 8) 117 0 [.ref 2, .int (q_I b), .int (q_I 35), .int (q_I 3), .null] [] (q_h L xs s O c) = some (.inl (some (.int (q_I (q_b (eqw T b [110, 111, 116] = true))))), q_h L xs (s) O c) := by
  have t0 : q_g s 3 (b + 0) = T b := by
    rw [hT (b + 0) (by omega) (by omega)]
    rw [Int.add_zero]
  have t1 : q_g s 3 (b + 1) = T (b + 1) := by
    rw [hT (b + 1) (by omega) (by omega)]
  have t2 : q_g s 3 (b + 2) = T (b + 1 + 1) := by
    rw [hT (b + 2) (by omega) (by omega)]
    rw [show b + 1 + 1 = b + 2 by omega]
  have r0 := q_g_rg s 3 (b + 0)
  rw [t0] at r0
  have r1 := q_g_rg s 3 (b + 1)
  rw [t1] at r1
  have r2 := q_g_rg s 3 (b + 2)
  rw [t2] at r2
  by_cases c0 : T b = 110
  · skip
    by_cases c1 : T (b + 1) = 111
    · skip
      by_cases c2 : T (b + 1 + 1) = 116
      · simp (disch := first | omega | exact q_b_01 _) only [↓reduceIte, q_bk0, q_bk1, q_bk2, q_sg_b, q_b_0, q_b_n0, q_b_1, q_b_n1, q_b_T, q_b_F, q_sg_g, q_sg_sg, q_sg_xs, q_sg_id, q_gu_ne, q_gu_eq, q_g_fne, q_g_cpe, q_w_f, q_v_f, q_u_f, q_fn_f, q_cp_f, q_sg_pg, q_sg_hc, q_lt_t, q_lt_f, q_le_t, q_le_f, q_eq_t, q_eq_f, ne_eq, eq_self, Bool.false_eq_true, Bool.true_eq_false, not_true_eq_false, not_false_eq_true, true_and, and_true, false_and, and_false, true_or, or_true, false_or, or_false, if_true, if_false, Int.reduceAdd, Int.reduceMul, Int.reduceSub, Int.reduceNeg, t0, t1, t2, c0, c1, c2, eqw, decide_true, Bool.and_self, Bool.and_true, Bool.true_and, R_117_0, R_117_3, R_117_9, R_117_18, R_117_27, R_117_30, R_117_32, R_117_38, CH_117_24_35, CH_117_24_36, CH_117_24_37]
      · simp (disch := first | omega | exact q_b_01 _) only [↓reduceIte, q_bk0, q_bk1, q_bk2, q_sg_b, q_b_0, q_b_n0, q_b_1, q_b_n1, q_b_T, q_b_F, q_sg_g, q_sg_sg, q_sg_xs, q_sg_id, q_gu_ne, q_gu_eq, q_g_fne, q_g_cpe, q_w_f, q_v_f, q_u_f, q_fn_f, q_cp_f, q_sg_pg, q_sg_hc, q_lt_t, q_lt_f, q_le_t, q_le_f, q_eq_t, q_eq_f, ne_eq, eq_self, Bool.false_eq_true, Bool.true_eq_false, not_true_eq_false, not_false_eq_true, true_and, and_true, false_and, and_false, true_or, or_true, false_or, or_false, if_true, if_false, Int.reduceAdd, Int.reduceMul, Int.reduceSub, Int.reduceNeg, t0, t1, t2, c0, c1, c2, eqw, decide_true, decide_false, Bool.false_and, Bool.and_false, Bool.and_true, Bool.true_and, R_117_0, R_117_3, R_117_9, R_117_18, R_117_27, R_117_30, R_117_32, R_117_38, CH_117_24_35, CH_117_24_36, CH_117_24_37]
    · simp (disch := first | omega | exact q_b_01 _) only [↓reduceIte, q_bk0, q_bk1, q_bk2, q_sg_b, q_b_0, q_b_n0, q_b_1, q_b_n1, q_b_T, q_b_F, q_sg_g, q_sg_sg, q_sg_xs, q_sg_id, q_gu_ne, q_gu_eq, q_g_fne, q_g_cpe, q_w_f, q_v_f, q_u_f, q_fn_f, q_cp_f, q_sg_pg, q_sg_hc, q_lt_t, q_lt_f, q_le_t, q_le_f, q_eq_t, q_eq_f, ne_eq, eq_self, Bool.false_eq_true, Bool.true_eq_false, not_true_eq_false, not_false_eq_true, true_and, and_true, false_and, and_false, true_or, or_true, false_or, or_false, if_true, if_false, Int.reduceAdd, Int.reduceMul, Int.reduceSub, Int.reduceNeg, t0, t1, c0, c1, eqw, decide_true, decide_false, Bool.false_and, Bool.and_false, Bool.and_true, Bool.true_and, R_117_0, R_117_3, R_117_9, R_117_18, R_117_27, R_117_30, R_117_32, R_117_38, CH_117_24_35, CH_117_24_36]
  · simp (disch := first | omega | exact q_b_01 _) only [↓reduceIte, q_bk0, q_bk1, q_bk2, q_sg_b, q_b_0, q_b_n0, q_b_1, q_b_n1, q_b_T, q_b_F, q_sg_g, q_sg_sg, q_sg_xs, q_sg_id, q_gu_ne, q_gu_eq, q_g_fne, q_g_cpe, q_w_f, q_v_f, q_u_f, q_fn_f, q_cp_f, q_sg_pg, q_sg_hc, q_lt_t, q_lt_f, q_le_t, q_le_f, q_eq_t, q_eq_f, ne_eq, eq_self, Bool.false_eq_true, Bool.true_eq_false, not_true_eq_false, not_false_eq_true, true_and, and_true, false_and, and_false, true_or, or_true, false_or, or_false, if_true, if_false, Int.reduceAdd, Int.reduceMul, Int.reduceSub, Int.reduceNeg, t0, c0, eqw, decide_true, decide_false, Bool.false_and, Bool.and_false, Bool.and_true, Bool.true_and, R_117_0, R_117_3, R_117_9, R_117_18, R_117_27, R_117_30, R_117_32, R_117_38, CH_117_24_35]
theorem ws_8 {b e : Int} (b0 : 0 ≤ b) (be : b < e) (e1 : e ≤ 400) (hT : ∀ j, b ≤ j → j < e → q_g s 3 j = T j) : EV (d + 9) 116 8 [.ref 2, .int (q_I (b)), .int (q_I (e)), .int (q_I (8)), .int (q_I (35)), .int (q_I (35))] [] (q_h L xs s O c) = if e - b = 3 ∧ eqw T b [110, 111, 116] = true then some (.inl (some (.int (q_I (8)))), q_h L xs (s) O c) else EV (d + 9) 116 8 [.ref 2, .int (q_I (b)), .int (q_I (e)), .int (q_I (9)), .int (q_I (39)), .int (q_I (39))] [] (q_h L xs s O c) := by
  rw [R_116_8]
  simp (disch := first | omega | exact q_b_01 _) only [↓reduceIte, q_bk0, q_bk1, q_bk2, q_sg_b, q_b_0, q_b_n0, q_b_1, q_b_n1, q_b_T, q_b_F, q_sg_g, q_sg_sg, q_sg_xs, q_sg_id, q_gu_ne, q_gu_eq, q_g_fne, q_g_cpe, q_w_f, q_v_f, q_u_f, q_fn_f, q_cp_f, q_sg_pg, q_sg_hc, q_lt_t, q_lt_f, q_le_t, q_le_f, q_eq_t, q_eq_f, ne_eq, eq_self, Bool.false_eq_true, Bool.true_eq_false, not_true_eq_false, not_false_eq_true, true_and, and_true, false_and, and_false, true_or, or_true, false_or, or_false, if_true, if_false, Int.reduceAdd, Int.reduceMul, Int.reduceSub, Int.reduceNeg, R_116_0, R_116_15, R_116_18, R_116_25, R_116_28, R_116_35, R_116_40, R_116_51, R_116_63, R_116_66, R_116_68, R_116_77, R_116_83, C_116_60, LN_116_12, LN_116_22, CH_116_32_35]
  rw [R_116_8]
  simp (disch := first | omega | exact q_b_01 _) only [↓reduceIte, q_bk0, q_bk1, q_bk2, q_sg_b, q_b_0, q_b_n0, q_b_1, q_b_n1, q_b_T, q_b_F, q_sg_g, q_sg_sg, q_sg_xs, q_sg_id, q_gu_ne, q_gu_eq, q_g_fne, q_g_cpe, q_w_f, q_v_f, q_u_f, q_fn_f, q_cp_f, q_sg_pg, q_sg_hc, q_lt_t, q_lt_f, q_le_t, q_le_f, q_eq_t, q_eq_f, ne_eq, eq_self, Bool.false_eq_true, Bool.true_eq_false, not_true_eq_false, not_false_eq_true, true_and, and_true, false_and, and_false, true_or, or_true, false_or, or_false, if_true, if_false, Int.reduceAdd, Int.reduceMul, Int.reduceSub, Int.reduceNeg, R_116_0, R_116_15, R_116_18, R_116_25, R_116_28, R_116_35, R_116_40, R_116_51, R_116_63, R_116_66, R_116_68, R_116_77, R_116_83, C_116_60, LN_116_12, LN_116_22, CH_116_32_36]
  rw [R_116_8]
  simp (disch := first | omega | exact q_b_01 _) only [↓reduceIte, q_bk0, q_bk1, q_bk2, q_sg_b, q_b_0, q_b_n0, q_b_1, q_b_n1, q_b_T, q_b_F, q_sg_g, q_sg_sg, q_sg_xs, q_sg_id, q_gu_ne, q_gu_eq, q_g_fne, q_g_cpe, q_w_f, q_v_f, q_u_f, q_fn_f, q_cp_f, q_sg_pg, q_sg_hc, q_lt_t, q_lt_f, q_le_t, q_le_f, q_eq_t, q_eq_f, ne_eq, eq_self, Bool.false_eq_true, Bool.true_eq_false, not_true_eq_false, not_false_eq_true, true_and, and_true, false_and, and_false, true_or, or_true, false_or, or_false, if_true, if_false, Int.reduceAdd, Int.reduceMul, Int.reduceSub, Int.reduceNeg, R_116_0, R_116_15, R_116_18, R_116_25, R_116_28, R_116_35, R_116_40, R_116_51, R_116_63, R_116_66, R_116_68, R_116_77, R_116_83, C_116_60, LN_116_12, LN_116_22, CH_116_32_37]
  rw [R_116_8]
  by_cases c1 : e - b = 3
  · have sm := sm_8 (d := d) (L := L) (xs := xs) (s := s) (O := O) (c := c) (T := T) b0 (by omega) (fun j h1 h2 => hT j h1 (by omega))
    by_cases c2 : eqw T b [110, 111, 116] = true
    · rw [if_pos ⟨c1, c2⟩]
      rw [q_bt c2] at sm
      simp (disch := first | omega | exact q_b_01 _) only [↓reduceIte, q_bk0, q_bk1, q_bk2, q_sg_b, q_b_0, q_b_n0, q_b_1, q_b_n1, q_b_T, q_b_F, q_sg_g, q_sg_sg, q_sg_xs, q_sg_id, q_gu_ne, q_gu_eq, q_g_fne, q_g_cpe, q_w_f, q_v_f, q_u_f, q_fn_f, q_cp_f, q_sg_pg, q_sg_hc, q_lt_t, q_lt_f, q_le_t, q_le_f, q_eq_t, q_eq_f, ne_eq, eq_self, Bool.false_eq_true, Bool.true_eq_false, not_true_eq_false, not_false_eq_true, true_and, and_true, false_and, and_false, true_or, or_true, false_or, or_false, if_true, if_false, Int.reduceAdd, Int.reduceMul, Int.reduceSub, Int.reduceNeg, sm, R_116_0, R_116_15, R_116_18, R_116_25, R_116_28, R_116_35, R_116_40, R_116_51, R_116_63, R_116_66, R_116_68, R_116_77, R_116_83, C_116_60, LN_116_12, LN_116_22, CH_116_32_38]
    · rw [if_neg (fun h => c2 h.2)]
      rw [q_bf c2] at sm
      simp (disch := first | omega | exact q_b_01 _) only [↓reduceIte, q_bk0, q_bk1, q_bk2, q_sg_b, q_b_0, q_b_n0, q_b_1, q_b_n1, q_b_T, q_b_F, q_sg_g, q_sg_sg, q_sg_xs, q_sg_id, q_gu_ne, q_gu_eq, q_g_fne, q_g_cpe, q_w_f, q_v_f, q_u_f, q_fn_f, q_cp_f, q_sg_pg, q_sg_hc, q_lt_t, q_lt_f, q_le_t, q_le_f, q_eq_t, q_eq_f, ne_eq, eq_self, Bool.false_eq_true, Bool.true_eq_false, not_true_eq_false, not_false_eq_true, true_and, and_true, false_and, and_false, true_or, or_true, false_or, or_false, if_true, if_false, Int.reduceAdd, Int.reduceMul, Int.reduceSub, Int.reduceNeg, sm, R_116_0, R_116_15, R_116_18, R_116_25, R_116_28, R_116_35, R_116_40, R_116_51, R_116_63, R_116_66, R_116_68, R_116_77, R_116_83, C_116_60, LN_116_12, LN_116_22, CH_116_32_38]
  · rw [if_neg (fun h => c1 h.1)]
    simp (disch := first | omega | exact q_b_01 _) only [↓reduceIte, q_bk0, q_bk1, q_bk2, q_sg_b, q_b_0, q_b_n0, q_b_1, q_b_n1, q_b_T, q_b_F, q_sg_g, q_sg_sg, q_sg_xs, q_sg_id, q_gu_ne, q_gu_eq, q_g_fne, q_g_cpe, q_w_f, q_v_f, q_u_f, q_fn_f, q_cp_f, q_sg_pg, q_sg_hc, q_lt_t, q_lt_f, q_le_t, q_le_f, q_eq_t, q_eq_f, ne_eq, eq_self, Bool.false_eq_true, Bool.true_eq_false, not_true_eq_false, not_false_eq_true, true_and, and_true, false_and, and_false, true_or, or_true, false_or, or_false, if_true, if_false, Int.reduceAdd, Int.reduceMul, Int.reduceSub, Int.reduceNeg, R_116_0, R_116_15, R_116_18, R_116_25, R_116_28, R_116_35, R_116_40, R_116_51, R_116_63, R_116_66, R_116_68, R_116_77, R_116_83, C_116_60, LN_116_12, LN_116_22, CH_116_32_38]
theorem sm_9 {b : Int} (b0 : 0 ≤ b) (b1 : b + 4 ≤ 400) (hT : ∀ j, b ≤ j → j < b + 4 → q_g s 3 j = T j) : EV (d + 8) 117 0 [.ref 2, .int (q_I b), .int (q_I 39), .int (q_I 4), .null] [] (q_h L xs s O c) = some (.inl (some (.int (q_I (q_b (eqw T b [104, 101, 97, 100] = true))))), q_h L xs (s) O c) := by
  have t0 : q_g s 3 (b + 0) = T b := by
    rw [hT (b + 0) (by omega) (by omega)]
    rw [Int.add_zero]
  have t1 : q_g s 3 (b + 1) = T (b + 1) := by
    rw [hT (b + 1) (by omega) (by omega)]
  have t2 : q_g s 3 (b + 2) = T (b + 1 + 1) := by
    rw [hT (b + 2) (by omega) (by omega)]
    rw [show b + 1 + 1 = b + 2 by omega]
  have t3 : q_g s 3 (b + 3) = T (b + 1 + 1 + 1) := by
    rw [hT (b + 3) (by omega) (by omega)]
    rw [show b + 1 + 1 + 1 = b + 3 by omega]
  have r0 := q_g_rg s 3 (b + 0)
  rw [t0] at r0
  have r1 := q_g_rg s 3 (b + 1)
  rw [t1] at r1
  have r2 := q_g_rg s 3 (b + 2)
  rw [t2] at r2
  have r3 := q_g_rg s 3 (b + 3)
  rw [t3] at r3
  by_cases c0 : T b = 104
  · skip
    by_cases c1 : T (b + 1) = 101
    · skip
      by_cases c2 : T (b + 1 + 1) = 97
      · skip
        by_cases c3 : T (b + 1 + 1 + 1) = 100
        · simp (disch := first | omega | exact q_b_01 _) only [↓reduceIte, q_bk0, q_bk1, q_bk2, q_sg_b, q_b_0, q_b_n0, q_b_1, q_b_n1, q_b_T, q_b_F, q_sg_g, q_sg_sg, q_sg_xs, q_sg_id, q_gu_ne, q_gu_eq, q_g_fne, q_g_cpe, q_w_f, q_v_f, q_u_f, q_fn_f, q_cp_f, q_sg_pg, q_sg_hc, q_lt_t, q_lt_f, q_le_t, q_le_f, q_eq_t, q_eq_f, ne_eq, eq_self, Bool.false_eq_true, Bool.true_eq_false, not_true_eq_false, not_false_eq_true, true_and, and_true, false_and, and_false, true_or, or_true, false_or, or_false, if_true, if_false, Int.reduceAdd, Int.reduceMul, Int.reduceSub, Int.reduceNeg, t0, t1, t2, t3, c0, c1, c2, c3, eqw, decide_true, Bool.and_self, Bool.and_true, Bool.true_and, R_117_0, R_117_3, R_117_9, R_117_18, R_117_27, R_117_30, R_117_32, R_117_38, CH_117_24_39, CH_117_24_40, CH_117_24_41, CH_117_24_42]
        · simp (disch := first | omega | exact q_b_01 _) only [↓reduceIte, q_bk0, q_bk1, q_bk2, q_sg_b, q_b_0, q_b_n0, q_b_1, q_b_n1, q_b_T, q_b_F, q_sg_g, q_sg_sg, q_sg_xs, q_sg_id, q_gu_ne, q_gu_eq, q_g_fne, q_g_cpe, q_w_f, q_v_f, q_u_f, q_fn_f, q_cp_f, q_sg_pg, q_sg_hc, q_lt_t, q_lt_f, q_le_t, q_le_f, q_eq_t, q_eq_f, ne_eq, eq_self, Bool.false_eq_true, Bool.true_eq_false, not_true_eq_false, not_false_eq_true, true_and, and_true, false_and, and_false, true_or, or_true, false_or, or_false, if_true, if_false, Int.reduceAdd, Int.reduceMul, Int.reduceSub, Int.reduceNeg, t0, t1, t2, t3, c0, c1, c2, c3, eqw, decide_true, decide_false, Bool.false_and, Bool.and_false, Bool.and_true, Bool.true_and, R_117_0, R_117_3, R_117_9, R_117_18, R_117_27, R_117_30, R_117_32, R_117_38, CH_117_24_39, CH_117_24_40, CH_117_24_41, CH_117_24_42]
      · simp (disch := first | omega | exact q_b_01 _) only [↓reduceIte, q_bk0, q_bk1, q_bk2, q_sg_b, q_b_0, q_b_n0, q_b_1, q_b_n1, q_b_T, q_b_F, q_sg_g, q_sg_sg, q_sg_xs, q_sg_id, q_gu_ne, q_gu_eq, q_g_fne, q_g_cpe, q_w_f, q_v_f, q_u_f, q_fn_f, q_cp_f, q_sg_pg, q_sg_hc, q_lt_t, q_lt_f, q_le_t, q_le_f, q_eq_t, q_eq_f, ne_eq, eq_self, Bool.false_eq_true, Bool.true_eq_false, not_true_eq_false, not_false_eq_true, true_and, and_true, false_and, and_false, true_or, or_true, false_or, or_false, if_true, if_false, Int.reduceAdd, Int.reduceMul, Int.reduceSub, Int.reduceNeg, t0, t1, t2, c0, c1, c2, eqw, decide_true, decide_false, Bool.false_and, Bool.and_false, Bool.and_true, Bool.true_and, R_117_0, R_117_3, R_117_9, R_117_18, R_117_27, R_117_30, R_117_32, R_117_38, CH_117_24_39, CH_117_24_40, CH_117_24_41]
    · simp (disch := first | omega | exact q_b_01 _) only [↓reduceIte, q_bk0, q_bk1, q_bk2, q_sg_b, q_b_0, q_b_n0, q_b_1, q_b_n1, q_b_T, q_b_F, q_sg_g, q_sg_sg, q_sg_xs, q_sg_id, q_gu_ne, q_gu_eq, q_g_fne, q_g_cpe, q_w_f, q_v_f, q_u_f, q_fn_f, q_cp_f, q_sg_pg, q_sg_hc, q_lt_t, q_lt_f, q_le_t, q_le_f, q_eq_t, q_eq_f, ne_eq, eq_self, Bool.false_eq_true, Bool.true_eq_false, not_true_eq_false, not_false_eq_true, true_and, and_true, false_and, and_false, true_or, or_true, false_or, or_false, if_true, if_false, Int.reduceAdd, Int.reduceMul, Int.reduceSub, Int.reduceNeg, t0, t1, c0, c1, eqw, decide_true, decide_false, Bool.false_and, Bool.and_false, Bool.and_true, Bool.true_and, R_117_0, R_117_3, R_117_9, R_117_18, R_117_27, R_117_30, R_117_32, R_117_38, CH_117_24_39, CH_117_24_40]
  · simp (disch := first | omega | exact q_b_01 _) only [↓reduceIte, q_bk0, q_bk1, q_bk2, q_sg_b, q_b_0, q_b_n0, q_b_1, q_b_n1, q_b_T, q_b_F, q_sg_g, q_sg_sg, q_sg_xs, q_sg_id, q_gu_ne, q_gu_eq, q_g_fne, q_g_cpe, q_w_f, q_v_f, q_u_f, q_fn_f, q_cp_f, q_sg_pg, q_sg_hc, q_lt_t, q_lt_f, q_le_t, q_le_f, q_eq_t, q_eq_f, ne_eq, eq_self, Bool.false_eq_true, Bool.true_eq_false, not_true_eq_false, not_false_eq_true, true_and, and_true, false_and, and_false, true_or, or_true, false_or, or_false, if_true, if_false, Int.reduceAdd, Int.reduceMul, Int.reduceSub, Int.reduceNeg, t0, c0, eqw, decide_true, decide_false, Bool.false_and, Bool.and_false, Bool.and_true, Bool.true_and, R_117_0, R_117_3, R_117_9, R_117_18, R_117_27, R_117_30, R_117_32, R_117_38, CH_117_24_39]
theorem ws_9 {b e : Int} (b0 : 0 ≤ b) (be : b < e) (e1 : e ≤ 400) (hT : ∀ j, b ≤ j → j < e → q_g s 3 j = T j) : EV (d + 9) 116 8 [.ref 2, .int (q_I (b)), .int (q_I (e)), .int (q_I (9)), .int (q_I (39)), .int (q_I (39))] [] (q_h L xs s O c) = if e - b = 4 ∧ eqw T b [104, 101, 97, 100] = true then some (.inl (some (.int (q_I (9)))), q_h L xs (s) O c) else EV (d + 9) 116 8 [.ref 2, .int (q_I (b)), .int (q_I (e)), .int (q_I (10)), .int (q_I (44)), .int (q_I (44))] [] (q_h L xs s O c) := by
  rw [R_116_8]
  simp (disch := first | omega | exact q_b_01 _) only [↓reduceIte, q_bk0, q_bk1, q_bk2, q_sg_b, q_b_0, q_b_n0, q_b_1, q_b_n1, q_b_T, q_b_F, q_sg_g, q_sg_sg, q_sg_xs, q_sg_id, q_gu_ne, q_gu_eq, q_g_fne, q_g_cpe, q_w_f, q_v_f, q_u_f, q_fn_f, q_cp_f, q_sg_pg, q_sg_hc, q_lt_t, q_lt_f, q_le_t, q_le_f, q_eq_t, q_eq_f, ne_eq, eq_self, Bool.false_eq_true, Bool.true_eq_false, not_true_eq_false, not_false_eq_true, true_and, and_true, false_and, and_false, true_or, or_true, false_or, or_false, if_true, if_false, Int.reduceAdd, Int.reduceMul, Int.reduceSub, Int.reduceNeg, R_116_0, R_116_15, R_116_18, R_116_25, R_116_28, R_116_35, R_116_40, R_116_51, R_116_63, R_116_66, R_116_68, R_116_77, R_116_83, C_116_60, LN_116_12, LN_116_22, CH_116_32_39]
  rw [R_116_8]
  simp (disch := first | omega | exact q_b_01 _) only [↓reduceIte, q_bk0, q_bk1, q_bk2, q_sg_b, q_b_0, q_b_n0, q_b_1, q_b_n1, q_b_T, q_b_F, q_sg_g, q_sg_sg, q_sg_xs, q_sg_id, q_gu_ne, q_gu_eq, q_g_fne, q_g_cpe, q_w_f, q_v_f, q_u_f, q_fn_f, q_cp_f, q_sg_pg, q_sg_hc, q_lt_t, q_lt_f, q_le_t, q_le_f, q_eq_t, q_eq_f, ne_eq, eq_self, Bool.false_eq_true, Bool.true_eq_false, not_true_eq_false, not_false_eq_true, true_and, and_true, false_and, and_false, true_or, or_true, false_or, or_false, if_true, if_false, Int.reduceAdd, Int.reduceMul, Int.reduceSub, Int.reduceNeg, R_116_0, R_116_15, R_116_18, R_116_25, R_116_28, R_116_35, R_116_40, R_116_51, R_116_63, R_116_66, R_116_68, R_116_77, R_116_83, C_116_60, LN_116_12, LN_116_22, CH_116_32_40]
  rw [R_116_8]
  simp (disch := first | omega | exact q_b_01 _) only [↓reduceIte, q_bk0, q_bk1, q_bk2, q_sg_b, q_b_0, q_b_n0, q_b_1, q_b_n1, q_b_T, q_b_F, q_sg_g, q_sg_sg, q_sg_xs, q_sg_id, q_gu_ne, q_gu_eq, q_g_fne, q_g_cpe, q_w_f, q_v_f, q_u_f, q_fn_f, q_cp_f, q_sg_pg, q_sg_hc, q_lt_t, q_lt_f, q_le_t, q_le_f, q_eq_t, q_eq_f, ne_eq, eq_self, Bool.false_eq_true, Bool.true_eq_false, not_true_eq_false, not_false_eq_true, true_and, and_true, false_and, and_false, true_or, or_true, false_or, or_false, if_true, if_false, Int.reduceAdd, Int.reduceMul, Int.reduceSub, Int.reduceNeg, R_116_0, R_116_15, R_116_18, R_116_25, R_116_28, R_116_35, R_116_40, R_116_51, R_116_63, R_116_66, R_116_68, R_116_77, R_116_83, C_116_60, LN_116_12, LN_116_22, CH_116_32_41]
  rw [R_116_8]
  simp (disch := first | omega | exact q_b_01 _) only [↓reduceIte, q_bk0, q_bk1, q_bk2, q_sg_b, q_b_0, q_b_n0, q_b_1, q_b_n1, q_b_T, q_b_F, q_sg_g, q_sg_sg, q_sg_xs, q_sg_id, q_gu_ne, q_gu_eq, q_g_fne, q_g_cpe, q_w_f, q_v_f, q_u_f, q_fn_f, q_cp_f, q_sg_pg, q_sg_hc, q_lt_t, q_lt_f, q_le_t, q_le_f, q_eq_t, q_eq_f, ne_eq, eq_self, Bool.false_eq_true, Bool.true_eq_false, not_true_eq_false, not_false_eq_true, true_and, and_true, false_and, and_false, true_or, or_true, false_or, or_false, if_true, if_false, Int.reduceAdd, Int.reduceMul, Int.reduceSub, Int.reduceNeg, R_116_0, R_116_15, R_116_18, R_116_25, R_116_28, R_116_35, R_116_40, R_116_51, R_116_63, R_116_66, R_116_68, R_116_77, R_116_83, C_116_60, LN_116_12, LN_116_22, CH_116_32_42]
  rw [R_116_8]
  by_cases c1 : e - b = 4
  · have sm := sm_9 (d := d) (L := L) (xs := xs) (s := s) (O := O) (c := c) (T := T) b0 (by omega) (fun j h1 h2 => hT j h1 (by omega))
    by_cases c2 : eqw T b [104, 101, 97, 100] = true
    · rw [if_pos ⟨c1, c2⟩]
      rw [q_bt c2] at sm
      simp (disch := first | omega | exact q_b_01 _) only [↓reduceIte, q_bk0, q_bk1, q_bk2, q_sg_b, q_b_0, q_b_n0, q_b_1, q_b_n1, q_b_T, q_b_F, q_sg_g, q_sg_sg, q_sg_xs, q_sg_id, q_gu_ne, q_gu_eq, q_g_fne, q_g_cpe, q_w_f, q_v_f, q_u_f, q_fn_f, q_cp_f, q_sg_pg, q_sg_hc, q_lt_t, q_lt_f, q_le_t, q_le_f, q_eq_t, q_eq_f, ne_eq, eq_self, Bool.false_eq_true, Bool.true_eq_false, not_true_eq_false, not_false_eq_true, true_and, and_true, false_and, and_false, true_or, or_true, false_or, or_false, if_true, if_false, Int.reduceAdd, Int.reduceMul, Int.reduceSub, Int.reduceNeg, sm, R_116_0, R_116_15, R_116_18, R_116_25, R_116_28, R_116_35, R_116_40, R_116_51, R_116_63, R_116_66, R_116_68, R_116_77, R_116_83, C_116_60, LN_116_12, LN_116_22, CH_116_32_43]
    · rw [if_neg (fun h => c2 h.2)]
      rw [q_bf c2] at sm
      simp (disch := first | omega | exact q_b_01 _) only [↓reduceIte, q_bk0, q_bk1, q_bk2, q_sg_b, q_b_0, q_b_n0, q_b_1, q_b_n1, q_b_T, q_b_F, q_sg_g, q_sg_sg, q_sg_xs, q_sg_id, q_gu_ne, q_gu_eq, q_g_fne, q_g_cpe, q_w_f, q_v_f, q_u_f, q_fn_f, q_cp_f, q_sg_pg, q_sg_hc, q_lt_t, q_lt_f, q_le_t, q_le_f, q_eq_t, q_eq_f, ne_eq, eq_self, Bool.false_eq_true, Bool.true_eq_false, not_true_eq_false, not_false_eq_true, true_and, and_true, false_and, and_false, true_or, or_true, false_or, or_false, if_true, if_false, Int.reduceAdd, Int.reduceMul, Int.reduceSub, Int.reduceNeg, sm, R_116_0, R_116_15, R_116_18, R_116_25, R_116_28, R_116_35, R_116_40, R_116_51, R_116_63, R_116_66, R_116_68, R_116_77, R_116_83, C_116_60, LN_116_12, LN_116_22, CH_116_32_43]
  · rw [if_neg (fun h => c1 h.1)]
    simp (disch := first | omega | exact q_b_01 _) only [↓reduceIte, q_bk0, q_bk1, q_bk2, q_sg_b, q_b_0, q_b_n0, q_b_1, q_b_n1, q_b_T, q_b_F, q_sg_g, q_sg_sg, q_sg_xs, q_sg_id, q_gu_ne, q_gu_eq, q_g_fne, q_g_cpe, q_w_f, q_v_f, q_u_f, q_fn_f, q_cp_f, q_sg_pg, q_sg_hc, q_lt_t, q_lt_f, q_le_t, q_le_f, q_eq_t, q_eq_f, ne_eq, eq_self, Bool.false_eq_true, Bool.true_eq_false, not_true_eq_false, not_false_eq_true, true_and, and_true, false_and, and_false, true_or, or_true, false_or, or_false, if_true, if_false, Int.reduceAdd, Int.reduceMul, Int.reduceSub, Int.reduceNeg, R_116_0, R_116_15, R_116_18, R_116_25, R_116_28, R_116_35, R_116_40, R_116_51, R_116_63, R_116_66, R_116_68, R_116_77, R_116_83, C_116_60, LN_116_12, LN_116_22, CH_116_32_43]
theorem sm_10 {b : Int} (b0 : 0 ≤ b) (b1 : b + 4 ≤ 400) (hT : ∀ j, b ≤ j → j < b + 4 → q_g s 3 j = T j) : EV (d + 8) 117 0 [.ref 2, .int (q_I b), .int (q_I 44), .int (q_I 4), .null] [] (q_h L xs s O c) = some (.inl (some (.int (q_I (q_b (eqw T b [115, 108, 105, 112] = true))))), q_h L xs (s) O c) := by
  have t0 : q_g s 3 (b + 0) = T b := by
    rw [hT (b + 0) (by omega) (by omega)]
    rw [Int.add_zero]
  have t1 : q_g s 3 (b + 1) = T (b + 1) := by
    rw [hT (b + 1) (by omega) (by omega)]
  have t2 : q_g s 3 (b + 2) = T (b + 1 + 1) := by
    rw [hT (b + 2) (by omega) (by omega)]
    rw [show b + 1 + 1 = b + 2 by omega]
  have t3 : q_g s 3 (b + 3) = T (b + 1 + 1 + 1) := by
    rw [hT (b + 3) (by omega) (by omega)]
    rw [show b + 1 + 1 + 1 = b + 3 by omega]
  have r0 := q_g_rg s 3 (b + 0)
  rw [t0] at r0
  have r1 := q_g_rg s 3 (b + 1)
  rw [t1] at r1
  have r2 := q_g_rg s 3 (b + 2)
  rw [t2] at r2
  have r3 := q_g_rg s 3 (b + 3)
  rw [t3] at r3
  by_cases c0 : T b = 115
  · skip
    by_cases c1 : T (b + 1) = 108
    · skip
      by_cases c2 : T (b + 1 + 1) = 105
      · skip
        by_cases c3 : T (b + 1 + 1 + 1) = 112
        · simp (disch := first | omega | exact q_b_01 _) only [↓reduceIte, q_bk0, q_bk1, q_bk2, q_sg_b, q_b_0, q_b_n0, q_b_1, q_b_n1, q_b_T, q_b_F, q_sg_g, q_sg_sg, q_sg_xs, q_sg_id, q_gu_ne, q_gu_eq, q_g_fne, q_g_cpe, q_w_f, q_v_f, q_u_f, q_fn_f, q_cp_f, q_sg_pg, q_sg_hc, q_lt_t, q_lt_f, q_le_t, q_le_f, q_eq_t, q_eq_f, ne_eq, eq_self, Bool.false_eq_true, Bool.true_eq_false, not_true_eq_false, not_false_eq_true, true_and, and_true, false_and, and_false, true_or, or_true, false_or, or_false, if_true, if_false, Int.reduceAdd, Int.reduceMul, Int.reduceSub, Int.reduceNeg, t0, t1, t2, t3, c0, c1, c2, c3, eqw, decide_true, Bool.and_self, Bool.and_true, Bool.true_and, R_117_0, R_117_3, R_117_9, R_117_18, R_117_27, R_117_30, R_117_32, R_117_38, CH_117_24_44, CH_117_24_45, CH_117_24_46, CH_117_24_47]
        · simp (disch := first | omega | exact q_b_01 _) only [↓reduceIte, q_bk0, q_bk1, q_bk2, q_sg_b, q_b_0, q_b_n0, q_b_1, q_b_n1, q_b_T, q_b_F, q_sg_g, q_sg_sg, q_sg_xs, q_sg_id, q_gu_ne, q_gu_eq, q_g_fne, q_g_cpe, q_w_f, q_v_f, q_u_f, q_fn_f, q_cp_f, q_sg_pg, q_sg_hc, q_lt_t, q_lt_f, q_le_t, q_le_f, q_eq_t, q_eq_f, ne_eq, eq_self, Bool.false_eq_true, Bool.true_eq_false, not_true_eq_false, not_false_eq_true, true_and, and_true, false_and, and_false, true_or, or_true, false_or, or_false, if_true, if_false, Int.reduceAdd, Int.reduceMul, Int.reduceSub, Int.reduceNeg, t0, t1, t2, t3, c0, c1, c2, c3, eqw, decide_true, decide_false, Bool.false_and, Bool.and_false, Bool.and_true, Bool.true_and, R_117_0, R_117_3, R_117_9, R_117_18, R_117_27, R_117_30, R_117_32, R_117_38, CH_117_24_44, CH_117_24_45, CH_117_24_46, CH_117_24_47]
      · simp (disch := first | omega | exact q_b_01 _) only [↓reduceIte, q_bk0, q_bk1, q_bk2, q_sg_b, q_b_0, q_b_n0, q_b_1, q_b_n1, q_b_T, q_b_F, q_sg_g, q_sg_sg, q_sg_xs, q_sg_id, q_gu_ne, q_gu_eq, q_g_fne, q_g_cpe, q_w_f, q_v_f, q_u_f, q_fn_f, q_cp_f, q_sg_pg, q_sg_hc, q_lt_t, q_lt_f, q_le_t, q_le_f, q_eq_t, q_eq_f, ne_eq, eq_self, Bool.false_eq_true, Bool.true_eq_false, not_true_eq_false, not_false_eq_true, true_and, and_true, false_and, and_false, true_or, or_true, false_or, or_false, if_true, if_false, Int.reduceAdd, Int.reduceMul, Int.reduceSub, Int.reduceNeg, t0, t1, t2, c0, c1, c2, eqw, decide_true, decide_false, Bool.false_and, Bool.and_false, Bool.and_true, Bool.true_and, R_117_0, R_117_3, R_117_9, R_117_18, R_117_27, R_117_30, R_117_32, R_117_38, CH_117_24_44, CH_117_24_45, CH_117_24_46]
    · simp (disch := first | omega | exact q_b_01 _) only [↓reduceIte, q_bk0, q_bk1, q_bk2, q_sg_b, q_b_0, q_b_n0, q_b_1, q_b_n1, q_b_T, q_b_F, q_sg_g, q_sg_sg, q_sg_xs, q_sg_id, q_gu_ne, q_gu_eq, q_g_fne, q_g_cpe, q_w_f, q_v_f, q_u_f, q_fn_f, q_cp_f, q_sg_pg, q_sg_hc, q_lt_t, q_lt_f, q_le_t, q_le_f, q_eq_t, q_eq_f, ne_eq, eq_self, Bool.false_eq_true, Bool.true_eq_false, not_true_eq_false, not_false_eq_true, true_and, and_true, false_and, and_false, true_or, or_true, false_or, or_false, if_true, if_false, Int.reduceAdd, Int.reduceMul, Int.reduceSub, Int.reduceNeg, t0, t1, c0, c1, eqw, decide_true, decide_false, Bool.false_and, Bool.and_false, Bool.and_true, Bool.true_and, R_117_0, R_117_3, R_117_9, R_117_18, R_117_27, R_117_30, R_117_32, R_117_38, CH_117_24_44, CH_117_24_45]
  · simp (disch := first | omega | exact q_b_01 _) only [↓reduceIte, q_bk0, q_bk1, q_bk2, q_sg_b, q_b_0, q_b_n0, q_b_1, q_b_n1, q_b_T, q_b_F, q_sg_g, q_sg_sg, q_sg_xs, q_sg_id, q_gu_ne, q_gu_eq, q_g_fne, q_g_cpe, q_w_f, q_v_f, q_u_f, q_fn_f, q_cp_f, q_sg_pg, q_sg_hc, q_lt_t, q_lt_f, q_le_t, q_le_f, q_eq_t, q_eq_f, ne_eq, eq_self, Bool.false_eq_true, Bool.true_eq_false, not_true_eq_false, not_false_eq_true, true_and, and_true, false_and, and_false, true_or, or_true, false_or, or_false, if_true, if_false, Int.reduceAdd, Int.reduceMul, Int.reduceSub, Int.reduceNeg, t0, c0, eqw, decide_true, decide_false, Bool.false_and, Bool.and_false, Bool.and_true, Bool.true_and, R_117_0, R_117_3, R_117_9, R_117_18, R_117_27, R_117_30, R_117_32, R_117_38, CH_117_24_44]
theorem ws_10 {b e : Int} (b0 : 0 ≤ b) (be : b < e) (e1 : e ≤ 400) (hT : ∀ j, b ≤ j → j < e → q_g s 3 j = T j) : EV (d + 9) 116 8 [.ref 2, .int (q_I (b)), .int (q_I (e)), .int (q_I (10)), .int (q_I (44)), .int (q_I (44))] [] (q_h L xs s O c) = if e - b = 4 ∧ eqw T b [115, 108, 105, 112] = true then some (.inl (some (.int (q_I (10)))), q_h L xs (s) O c) else EV (d + 9) 116 8 [.ref 2, .int (q_I (b)), .int (q_I (e)), .int (q_I (11)), .int (q_I (49)), .int (q_I (49))] [] (q_h L xs s O c) := by
  rw [R_116_8]
  simp (disch := first | omega | exact q_b_01 _) only [↓reduceIte, q_bk0, q_bk1, q_bk2, q_sg_b, q_b_0, q_b_n0, q_b_1, q_b_n1, q_b_T, q_b_F, q_sg_g, q_sg_sg, q_sg_xs, q_sg_id, q_gu_ne, q_gu_eq, q_g_fne, q_g_cpe, q_w_f, q_v_f, q_u_f, q_fn_f, q_cp_f, q_sg_pg, q_sg_hc, q_lt_t, q_lt_f, q_le_t, q_le_f, q_eq_t, q_eq_f, ne_eq, eq_self, Bool.false_eq_true, Bool.true_eq_false, not_true_eq_false, not_false_eq_true, true_and, and_true, false_and, and_false, true_or, or_true, false_or, or_false, if_true, if_false, Int.reduceAdd, Int.reduceMul, Int.reduceSub, Int.reduceNeg, R_116_0, R_116_15, R_116_18, R_116_25, R_116_28, R_116_35, R_116_40, R_116_51, R_116_63, R_116_66, R_116_68, R_116_77, R_116_83, C_116_60, LN_116_12, LN_116_22, CH_116_32_44]
  rw [R_116_8]
  simp (disch := first | omega | exact q_b_01 _) only [↓reduceIte, q_bk0, q_bk1, q_bk2, q_sg_b, q_b_0, q_b_n0, q_b_1, q_b_n1, q_b_T, q_b_F, q_sg_g, q_sg_sg, q_sg_xs, q_sg_id, q_gu_ne, q_gu_eq, q_g_fne, q_g_cpe, q_w_f, q_v_f, q_u_f, q_fn_f, q_cp_f, q_sg_pg, q_sg_hc, q_lt_t, q_lt_f, q_le_t, q_le_f, q_eq_t, q_eq_f, ne_eq, eq_self, Bool.false_eq_true, Bool.true_eq_false, not_true_eq_false, not_false_eq_true, true_and, and_true, false_and, and_false, true_or, or_true, false_or, or_false, if_true, if_false, Int.reduceAdd, Int.reduceMul, Int.reduceSub, Int.reduceNeg, R_116_0, R_116_15, R_116_18, R_116_25, R_116_28, R_116_35, R_116_40, R_116_51, R_116_63, R_116_66, R_116_68, R_116_77, R_116_83, C_116_60, LN_116_12, LN_116_22, CH_116_32_45]
  rw [R_116_8]
  simp (disch := first | omega | exact q_b_01 _) only [↓reduceIte, q_bk0, q_bk1, q_bk2, q_sg_b, q_b_0, q_b_n0, q_b_1, q_b_n1, q_b_T, q_b_F, q_sg_g, q_sg_sg, q_sg_xs, q_sg_id, q_gu_ne, q_gu_eq, q_g_fne, q_g_cpe, q_w_f, q_v_f, q_u_f, q_fn_f, q_cp_f, q_sg_pg, q_sg_hc, q_lt_t, q_lt_f, q_le_t, q_le_f, q_eq_t, q_eq_f, ne_eq, eq_self, Bool.false_eq_true, Bool.true_eq_false, not_true_eq_false, not_false_eq_true, true_and, and_true, false_and, and_false, true_or, or_true, false_or, or_false, if_true, if_false, Int.reduceAdd, Int.reduceMul, Int.reduceSub, Int.reduceNeg, R_116_0, R_116_15, R_116_18, R_116_25, R_116_28, R_116_35, R_116_40, R_116_51, R_116_63, R_116_66, R_116_68, R_116_77, R_116_83, C_116_60, LN_116_12, LN_116_22, CH_116_32_46]
  rw [R_116_8]
  simp (disch := first | omega | exact q_b_01 _) only [↓reduceIte, q_bk0, q_bk1, q_bk2, q_sg_b, q_b_0, q_b_n0, q_b_1, q_b_n1, q_b_T, q_b_F, q_sg_g, q_sg_sg, q_sg_xs, q_sg_id, q_gu_ne, q_gu_eq, q_g_fne, q_g_cpe, q_w_f, q_v_f, q_u_f, q_fn_f, q_cp_f, q_sg_pg, q_sg_hc, q_lt_t, q_lt_f, q_le_t, q_le_f, q_eq_t, q_eq_f, ne_eq, eq_self, Bool.false_eq_true, Bool.true_eq_false, not_true_eq_false, not_false_eq_true, true_and, and_true, false_and, and_false, true_or, or_true, false_or, or_false, if_true, if_false, Int.reduceAdd, Int.reduceMul, Int.reduceSub, Int.reduceNeg, R_116_0, R_116_15, R_116_18, R_116_25, R_116_28, R_116_35, R_116_40, R_116_51, R_116_63, R_116_66, R_116_68, R_116_77, R_116_83, C_116_60, LN_116_12, LN_116_22, CH_116_32_47]
  rw [R_116_8]
  by_cases c1 : e - b = 4
  · have sm := sm_10 (d := d) (L := L) (xs := xs) (s := s) (O := O) (c := c) (T := T) b0 (by omega) (fun j h1 h2 => hT j h1 (by omega))
    by_cases c2 : eqw T b [115, 108, 105, 112] = true
    · rw [if_pos ⟨c1, c2⟩]
      rw [q_bt c2] at sm
      simp (disch := first | omega | exact q_b_01 _) only [↓reduceIte, q_bk0, q_bk1, q_bk2, q_sg_b, q_b_0, q_b_n0, q_b_1, q_b_n1, q_b_T, q_b_F, q_sg_g, q_sg_sg, q_sg_xs, q_sg_id, q_gu_ne, q_gu_eq, q_g_fne, q_g_cpe, q_w_f, q_v_f, q_u_f, q_fn_f, q_cp_f, q_sg_pg, q_sg_hc, q_lt_t, q_lt_f, q_le_t, q_le_f, q_eq_t, q_eq_f, ne_eq, eq_self, Bool.false_eq_true, Bool.true_eq_false, not_true_eq_false, not_false_eq_true, true_and, and_true, false_and, and_false, true_or, or_true, false_or, or_false, if_true, if_false, Int.reduceAdd, Int.reduceMul, Int.reduceSub, Int.reduceNeg, sm, R_116_0, R_116_15, R_116_18, R_116_25, R_116_28, R_116_35, R_116_40, R_116_51, R_116_63, R_116_66, R_116_68, R_116_77, R_116_83, C_116_60, LN_116_12, LN_116_22, CH_116_32_48]
    · rw [if_neg (fun h => c2 h.2)]
      rw [q_bf c2] at sm
      simp (disch := first | omega | exact q_b_01 _) only [↓reduceIte, q_bk0, q_bk1, q_bk2, q_sg_b, q_b_0, q_b_n0, q_b_1, q_b_n1, q_b_T, q_b_F, q_sg_g, q_sg_sg, q_sg_xs, q_sg_id, q_gu_ne, q_gu_eq, q_g_fne, q_g_cpe, q_w_f, q_v_f, q_u_f, q_fn_f, q_cp_f, q_sg_pg, q_sg_hc, q_lt_t, q_lt_f, q_le_t, q_le_f, q_eq_t, q_eq_f, ne_eq, eq_self, Bool.false_eq_true, Bool.true_eq_false, not_true_eq_false, not_false_eq_true, true_and, and_true, false_and, and_false, true_or, or_true, false_or, or_false, if_true, if_false, Int.reduceAdd, Int.reduceMul, Int.reduceSub, Int.reduceNeg, sm, R_116_0, R_116_15, R_116_18, R_116_25, R_116_28, R_116_35, R_116_40, R_116_51, R_116_63, R_116_66, R_116_68, R_116_77, R_116_83, C_116_60, LN_116_12, LN_116_22, CH_116_32_48]
  · rw [if_neg (fun h => c1 h.1)]
    simp (disch := first | omega | exact q_b_01 _) only [↓reduceIte, q_bk0, q_bk1, q_bk2, q_sg_b, q_b_0, q_b_n0, q_b_1, q_b_n1, q_b_T, q_b_F, q_sg_g, q_sg_sg, q_sg_xs, q_sg_id, q_gu_ne, q_gu_eq, q_g_fne, q_g_cpe, q_w_f, q_v_f, q_u_f, q_fn_f, q_cp_f, q_sg_pg, q_sg_hc, q_lt_t, q_lt_f, q_le_t, q_le_f, q_eq_t, q_eq_f, ne_eq, eq_self, Bool.false_eq_true, Bool.true_eq_false, not_true_eq_false, not_false_eq_true, true_and, and_true, false_and, and_false, true_or, or_true, false_or, or_false, if_true, if_false, Int.reduceAdd, Int.reduceMul, Int.reduceSub, Int.reduceNeg, R_116_0, R_116_15, R_116_18, R_116_25, R_116_28, R_116_35, R_116_40, R_116_51, R_116_63, R_116_66, R_116_68, R_116_77, R_116_83, C_116_60, LN_116_12, LN_116_22, CH_116_32_48]
theorem sm_11 {b : Int} (b0 : 0 ≤ b) (b1 : b + 4 ≤ 400) (hT : ∀ j, b ≤ j → j < b + 4 → q_g s 3 j = T j) : EV (d + 8) 117 0 [.ref 2, .int (q_I b), .int (q_I 49), .int (q_I 4), .null] [] (q_h L xs s O c) = some (.inl (some (.int (q_I (q_b (eqw T b [101, 118, 101, 110] = true))))), q_h L xs (s) O c) := by
  have t0 : q_g s 3 (b + 0) = T b := by
    rw [hT (b + 0) (by omega) (by omega)]
    rw [Int.add_zero]
  have t1 : q_g s 3 (b + 1) = T (b + 1) := by
    rw [hT (b + 1) (by omega) (by omega)]
  have t2 : q_g s 3 (b + 2) = T (b + 1 + 1) := by
    rw [hT (b + 2) (by omega) (by omega)]
    rw [show b + 1 + 1 = b + 2 by omega]
  have t3 : q_g s 3 (b + 3) = T (b + 1 + 1 + 1) := by
    rw [hT (b + 3) (by omega) (by omega)]
    rw [show b + 1 + 1 + 1 = b + 3 by omega]
  have r0 := q_g_rg s 3 (b + 0)
  rw [t0] at r0
  have r1 := q_g_rg s 3 (b + 1)
  rw [t1] at r1
  have r2 := q_g_rg s 3 (b + 2)
  rw [t2] at r2
  have r3 := q_g_rg s 3 (b + 3)
  rw [t3] at r3
  by_cases c0 : T b = 101
  · skip
    by_cases c1 : T (b + 1) = 118
    · skip
      by_cases c2 : T (b + 1 + 1) = 101
      · skip
        by_cases c3 : T (b + 1 + 1 + 1) = 110
        · simp (disch := first | omega | exact q_b_01 _) only [↓reduceIte, q_bk0, q_bk1, q_bk2, q_sg_b, q_b_0, q_b_n0, q_b_1, q_b_n1, q_b_T, q_b_F, q_sg_g, q_sg_sg, q_sg_xs, q_sg_id, q_gu_ne, q_gu_eq, q_g_fne, q_g_cpe, q_w_f, q_v_f, q_u_f, q_fn_f, q_cp_f, q_sg_pg, q_sg_hc, q_lt_t, q_lt_f, q_le_t, q_le_f, q_eq_t, q_eq_f, ne_eq, eq_self, Bool.false_eq_true, Bool.true_eq_false, not_true_eq_false, not_false_eq_true, true_and, and_true, false_and, and_false, true_or, or_true, false_or, or_false, if_true, if_false, Int.reduceAdd, Int.reduceMul, Int.reduceSub, Int.reduceNeg, t0, t1, t2, t3, c0, c1, c2, c3, eqw, decide_true, Bool.and_self, Bool.and_true, Bool.true_and, R_117_0, R_117_3, R_117_9, R_117_18, R_117_27, R_117_30, R_117_32, R_117_38, CH_117_24_49, CH_117_24_50, CH_117_24_51, CH_117_24_52]
        · simp (disch := first | omega | exact q_b_01 _) only [↓reduceIte, q_bk0, q_bk1, q_bk2, q_sg_b, q_b_0, q_b_n0, q_b_1, q_b_n1, q_b_T, q_b_F, q_sg_g, q_sg_sg, q_sg_xs, q_sg_id, q_gu_ne, q_gu_eq, q_g_fne, q_g_cpe, q_w_f, q_v_f, q_u_f, q_fn_f, q_cp_f, q_sg_pg, q_sg_hc, q_lt_t, q_lt_f, q_le_t, q_le_f, q_eq_t, q_eq_f, ne_eq, eq_self, Bool.false_eq_true, Bool.true_eq_false, not_true_eq_false, not_false_eq_true, true_and, and_true, false_and, and_false, true_or, or_true, false_or, or_false, if_true, if_false, Int.reduceAdd, Int.reduceMul, Int.reduceSub, Int.reduceNeg, t0, t1, t2, t3, c0, c1, c2, c3, eqw, decide_true, decide_false, Bool.false_and, Bool.and_false, Bool.and_true, Bool.true_and, R_117_0, R_117_3, R_117_9, R_117_18, R_117_27, R_117_30, R_117_32, R_117_38, CH_117_24_49, CH_117_24_50, CH_117_24_51, CH_117_24_52]
      · simp (disch := first | omega | exact q_b_01 _) only [↓reduceIte, q_bk0, q_bk1, q_bk2, q_sg_b, q_b_0, q_b_n0, q_b_1, q_b_n1, q_b_T, q_b_F, q_sg_g, q_sg_sg, q_sg_xs, q_sg_id, q_gu_ne, q_gu_eq, q_g_fne, q_g_cpe, q_w_f, q_v_f, q_u_f, q_fn_f, q_cp_f, q_sg_pg, q_sg_hc, q_lt_t, q_lt_f, q_le_t, q_le_f, q_eq_t, q_eq_f, ne_eq, eq_self, Bool.false_eq_true, Bool.true_eq_false, not_true_eq_false, not_false_eq_true, true_and, and_true, false_and, and_false, true_or, or_true, false_or, or_false, if_true, if_false, Int.reduceAdd, Int.reduceMul, Int.reduceSub, Int.reduceNeg, t0, t1, t2, c0, c1, c2, eqw, decide_true, decide_false, Bool.false_and, Bool.and_false, Bool.and_true, Bool.true_and, R_117_0, R_117_3, R_117_9, R_117_18, R_117_27, R_117_30, R_117_32, R_117_38, CH_117_24_49, CH_117_24_50, CH_117_24_51]
    · simp (disch := first | omega | exact q_b_01 _) only [↓reduceIte, q_bk0, q_bk1, q_bk2, q_sg_b, q_b_0, q_b_n0, q_b_1, q_b_n1, q_b_T, q_b_F, q_sg_g, q_sg_sg, q_sg_xs, q_sg_id, q_gu_ne, q_gu_eq, q_g_fne, q_g_cpe, q_w_f, q_v_f, q_u_f, q_fn_f, q_cp_f, q_sg_pg, q_sg_hc, q_lt_t, q_lt_f, q_le_t, q_le_f, q_eq_t, q_eq_f, ne_eq, eq_self, Bool.false_eq_true, Bool.true_eq_false, not_true_eq_false, not_false_eq_true, true_and, and_true, false_and, and_false, true_or, or_true, false_or, or_false, if_true, if_false, Int.reduceAdd, Int.reduceMul, Int.reduceSub, Int.reduceNeg, t0, t1, c0, c1, eqw, decide_true, decide_false, Bool.false_and, Bool.and_false, Bool.and_true, Bool.true_and, R_117_0, R_117_3, R_117_9, R_117_18, R_117_27, R_117_30, R_117_32, R_117_38, CH_117_24_49, CH_117_24_50]
  · simp (disch := first | omega | exact q_b_01 _) only [↓reduceIte, q_bk0, q_bk1, q_bk2, q_sg_b, q_b_0, q_b_n0, q_b_1, q_b_n1, q_b_T, q_b_F, q_sg_g, q_sg_sg, q_sg_xs, q_sg_id, q_gu_ne, q_gu_eq, q_g_fne, q_g_cpe, q_w_f, q_v_f, q_u_f, q_fn_f, q_cp_f, q_sg_pg, q_sg_hc, q_lt_t, q_lt_f, q_le_t, q_le_f, q_eq_t, q_eq_f, ne_eq, eq_self, Bool.false_eq_true, Bool.true_eq_false, not_true_eq_false, not_false_eq_true, true_and, and_true, false_and, and_false, true_or, or_true, false_or, or_false, if_true, if_false, Int.reduceAdd, Int.reduceMul, Int.reduceSub, Int.reduceNeg, t0, c0, eqw, decide_true, decide_false, Bool.false_and, Bool.and_false, Bool.and_true, Bool.true_and, R_117_0, R_117_3, R_117_9, R_117_18, R_117_27, R_117_30, R_117_32, R_117_38, CH_117_24_49]
theorem ws_11 {b e : Int} (b0 : 0 ≤ b) (be : b < e) (e1 : e ≤ 400) (hT : ∀ j, b ≤ j → j < e → q_g s 3 j = T j) : EV (d + 9) 116 8 [.ref 2, .int (q_I (b)), .int (q_I (e)), .int (q_I (11)), .int (q_I (49)), .int (q_I (49))] [] (q_h L xs s O c) = if e - b = 4 ∧ eqw T b [101, 118, 101, 110] = true then some (.inl (some (.int (q_I (11)))), q_h L xs (s) O c) else EV (d + 9) 116 8 [.ref 2, .int (q_I (b)), .int (q_I (e)), .int (q_I (12)), .int (q_I (54)), .int (q_I (54))] [] (q_h L xs s O c) := by
  rw [R_116_8]
  simp (disch := first | omega | exact q_b_01 _) only [↓reduceIte, q_bk0, q_bk1, q_bk2, q_sg_b, q_b_0, q_b_n0, q_b_1, q_b_n1, q_b_T, q_b_F, q_sg_g, q_sg_sg, q_sg_xs, q_sg_id, q_gu_ne, q_gu_eq, q_g_fne, q_g_cpe, q_w_f, q_v_f, q_u_f, q_fn_f, q_cp_f, q_sg_pg, q_sg_hc, q_lt_t, q_lt_f, q_le_t, q_le_f, q_eq_t, q_eq_f, ne_eq, eq_self, Bool.false_eq_true, Bool.true_eq_false, not_true_eq_false, not_false_eq_true, true_and, and_true, false_and, and_false, true_or, or_true, false_or, or_false, if_true, if_false, Int.reduceAdd, Int.reduceMul, Int.reduceSub, Int.reduceNeg, R_116_0, R_116_15, R_116_18, R_116_25, R_116_28, R_116_35, R_116_40, R_116_51, R_116_63, R_116_66, R_116_68, R_116_77, R_116_83, C_116_60, LN_116_12, LN_116_22, CH_116_32_49]
  rw [R_116_8]
  simp (disch := first | omega | exact q_b_01 _) only [↓reduceIte, q_bk0, q_bk1, q_bk2, q_sg_b, q_b_0, q_b_n0, q_b_1, q_b_n1, q_b_T, q_b_F, q_sg_g, q_sg_sg, q_sg_xs, q_sg_id, q_gu_ne, q_gu_eq, q_g_fne, q_g_cpe, q_w_f, q_v_f, q_u_f, q_fn_f, q_cp_f, q_sg_pg, q_sg_hc, q_lt_t, q_lt_f, q_le_t, q_le_f, q_eq_t, q_eq_f, ne_eq, eq_self, Bool.false_eq_true, Bool.true_eq_false, not_true_eq_false, not_false_eq_true, true_and, and_true, false_and, and_false, true_or, or_true, false_or, or_false, if_true, if_false, Int.reduceAdd, Int.reduceMul, Int.reduceSub, Int.reduceNeg, R_116_0, R_116_15, R_116_18, R_116_25, R_116_28, R_116_35, R_116_40, R_116_51, R_116_63, R_116_66, R_116_68, R_116_77, R_116_83, C_116_60, LN_116_12, LN_116_22, CH_116_32_50]
  rw [R_116_8]
  simp (disch := first | omega | exact q_b_01 _) only [↓reduceIte, q_bk0, q_bk1, q_bk2, q_sg_b, q_b_0, q_b_n0, q_b_1, q_b_n1, q_b_T, q_b_F, q_sg_g, q_sg_sg, q_sg_xs, q_sg_id, q_gu_ne, q_gu_eq, q_g_fne, q_g_cpe, q_w_f, q_v_f, q_u_f, q_fn_f, q_cp_f, q_sg_pg, q_sg_hc, q_lt_t, q_lt_f, q_le_t, q_le_f, q_eq_t, q_eq_f, ne_eq, eq_self, Bool.false_eq_true, Bool.true_eq_false, not_true_eq_false, not_false_eq_true, true_and, and_true, false_and, and_false, true_or, or_true, false_or, or_false, if_true, if_false, Int.reduceAdd, Int.reduceMul, Int.reduceSub, Int.reduceNeg, R_116_0, R_116_15, R_116_18, R_116_25, R_116_28, R_116_35, R_116_40, R_116_51, R_116_63, R_116_66, R_116_68, R_116_77, R_116_83, C_116_60, LN_116_12, LN_116_22, CH_116_32_51]
  rw [R_116_8]
  simp (disch := first | omega | exact q_b_01 _) only [↓reduceIte, q_bk0, q_bk1, q_bk2, q_sg_b, q_b_0, q_b_n0, q_b_1, q_b_n1, q_b_T, q_b_F, q_sg_g, q_sg_sg, q_sg_xs, q_sg_id, q_gu_ne, q_gu_eq, q_g_fne, q_g_cpe, q_w_f, q_v_f, q_u_f, q_fn_f, q_cp_f, q_sg_pg, q_sg_hc, q_lt_t, q_lt_f, q_le_t, q_le_f, q_eq_t, q_eq_f, ne_eq, eq_self, Bool.false_eq_true, Bool.true_eq_false, not_true_eq_false, not_false_eq_true, true_and, and_true, false_and, and_false, true_or, or_true, false_or, or_false, if_true, if_false, Int.reduceAdd, Int.reduceMul, Int.reduceSub, Int.reduceNeg, R_116_0, R_116_15, R_116_18, R_116_25, R_116_28, R_116_35, R_116_40, R_116_51, R_116_63, R_116_66, R_116_68, R_116_77, R_116_83, C_116_60, LN_116_12, LN_116_22, CH_116_32_52]
  rw [R_116_8]
  by_cases c1 : e - b = 4
  · have sm := sm_11 (d := d) (L := L) (xs := xs) (s := s) (O := O) (c := c) (T := T) b0 (by omega) (fun j h1 h2 => hT j h1 (by omega))
    by_cases c2 : eqw T b [101, 118, 101, 110] = true
    · rw [if_pos ⟨c1, c2⟩]
      rw [q_bt c2] at sm
      simp (disch := first | omega | exact q_b_01 _) only [↓reduceIte, q_bk0, q_bk1, q_bk2, q_sg_b, q_b_0, q_b_n0, q_b_1, q_b_n1, q_b_T, q_b_F, q_sg_g, q_sg_sg, q_sg_xs, q_sg_id, q_gu_ne, q_gu_eq, q_g_fne, q_g_cpe, q_w_f, q_v_f, q_u_f, q_fn_f, q_cp_f, q_sg_pg, q_sg_hc, q_lt_t, q_lt_f, q_le_t, q_le_f, q_eq_t, q_eq_f, ne_eq, eq_self, Bool.false_eq_true, Bool.true_eq_false, not_true_eq_false, not_false_eq_true, true_and, and_true, false_and, and_false, true_or, or_true, false_or, or_false, if_true, if_false, Int.reduceAdd, Int.reduceMul, Int.reduceSub, Int.reduceNeg, sm, R_116_0, R_116_15, R_116_18, R_116_25, R_116_28, R_116_35, R_116_40, R_116_51, R_116_63, R_116_66, R_116_68, R_116_77, R_116_83, C_116_60, LN_116_12, LN_116_22, CH_116_32_53]
    · rw [if_neg (fun h => c2 h.2)]
      rw [q_bf c2] at sm
      simp (disch := first | omega | exact q_b_01 _) only [↓reduceIte, q_bk0, q_bk1, q_bk2, q_sg_b, q_b_0, q_b_n0, q_b_1, q_b_n1, q_b_T, q_b_F, q_sg_g, q_sg_sg, q_sg_xs, q_sg_id, q_gu_ne, q_gu_eq, q_g_fne, q_g_cpe, q_w_f, q_v_f, q_u_f, q_fn_f, q_cp_f, q_sg_pg, q_sg_hc, q_lt_t, q_lt_f, q_le_t, q_le_f, q_eq_t, q_eq_f, ne_eq, eq_self, Bool.false_eq_true, Bool.true_eq_false, not_true_eq_false, not_false_eq_true, true_and, and_true, false_and, and_false, true_or, or_true, false_or, or_false, if_true, if_false, Int.reduceAdd, Int.reduceMul, Int.reduceSub, Int.reduceNeg, sm, R_116_0, R_116_15, R_116_18, R_116_25, R_116_28, R_116_35, R_116_40, R_116_51, R_116_63, R_116_66, R_116_68, R_116_77, R_116_83, C_116_60, LN_116_12, LN_116_22, CH_116_32_53]
  · rw [if_neg (fun h => c1 h.1)]
    simp (disch := first | omega | exact q_b_01 _) only [↓reduceIte, q_bk0, q_bk1, q_bk2, q_sg_b, q_b_0, q_b_n0, q_b_1, q_b_n1, q_b_T, q_b_F, q_sg_g, q_sg_sg, q_sg_xs, q_sg_id, q_gu_ne, q_gu_eq, q_g_fne, q_g_cpe, q_w_f, q_v_f, q_u_f, q_fn_f, q_cp_f, q_sg_pg, q_sg_hc, q_lt_t, q_lt_f, q_le_t, q_le_f, q_eq_t, q_eq_f, ne_eq, eq_self, Bool.false_eq_true, Bool.true_eq_false, not_true_eq_false, not_false_eq_true, true_and, and_true, false_and, and_false, true_or, or_true, false_or, or_false, if_true, if_false, Int.reduceAdd, Int.reduceMul, Int.reduceSub, Int.reduceNeg, R_116_0, R_116_15, R_116_18, R_116_25, R_116_28, R_116_35, R_116_40, R_116_51, R_116_63, R_116_66, R_116_68, R_116_77, R_116_83, C_116_60, LN_116_12, LN_116_22, CH_116_32_53]
theorem sm_12 {b : Int} (b0 : 0 ≤ b) (b1 : b + 4 ≤ 400) (hT : ∀ j, b ≤ j → j < b + 4 → q_g s 3 j = T j) : EV (d + 8) 117 0 [.ref 2, .int (q_I b), .int (q_I 54), .int (q_I 4), .null] [] (q_h L xs s O c) = some (.inl (some (.int (q_I (q_b (eqw T b [112, 97, 103, 101] = true))))), q_h L xs (s) O c) := by
  have t0 : q_g s 3 (b + 0) = T b := by
    rw [hT (b + 0) (by omega) (by omega)]
    rw [Int.add_zero]
  have t1 : q_g s 3 (b + 1) = T (b + 1) := by
    rw [hT (b + 1) (by omega) (by omega)]
  have t2 : q_g s 3 (b + 2) = T (b + 1 + 1) := by
    rw [hT (b + 2) (by omega) (by omega)]
    rw [show b + 1 + 1 = b + 2 by omega]
  have t3 : q_g s 3 (b + 3) = T (b + 1 + 1 + 1) := by
    rw [hT (b + 3) (by omega) (by omega)]
    rw [show b + 1 + 1 + 1 = b + 3 by omega]
  have r0 := q_g_rg s 3 (b + 0)
  rw [t0] at r0
  have r1 := q_g_rg s 3 (b + 1)
  rw [t1] at r1
  have r2 := q_g_rg s 3 (b + 2)
  rw [t2] at r2
  have r3 := q_g_rg s 3 (b + 3)
  rw [t3] at r3
  by_cases c0 : T b = 112
  · skip
    by_cases c1 : T (b + 1) = 97
    · skip
      by_cases c2 : T (b + 1 + 1) = 103
      · skip
        by_cases c3 : T (b + 1 + 1 + 1) = 101
        · simp (disch := first | omega | exact q_b_01 _) only [↓reduceIte, q_bk0, q_bk1, q_bk2, q_sg_b, q_b_0, q_b_n0, q_b_1, q_b_n1, q_b_T, q_b_F, q_sg_g, q_sg_sg, q_sg_xs, q_sg_id, q_gu_ne, q_gu_eq, q_g_fne, q_g_cpe, q_w_f, q_v_f, q_u_f, q_fn_f, q_cp_f, q_sg_pg, q_sg_hc, q_lt_t, q_lt_f, q_le_t, q_le_f, q_eq_t, q_eq_f, ne_eq, eq_self, Bool.false_eq_true, Bool.true_eq_false, not_true_eq_false, not_false_eq_true, true_and, and_true, false_and, and_false, true_or, or_true, false_or, or_false, if_true, if_false, Int.reduceAdd, Int.reduceMul, Int.reduceSub, Int.reduceNeg, t0, t1, t2, t3, c0, c1, c2, c3, eqw, decide_true, Bool.and_self, Bool.and_true, Bool.true_and, R_117_0, R_117_3, R_117_9, R_117_18, R_117_27, R_117_30, R_117_32, R_117_38, CH_117_24_54, CH_117_24_55, CH_117_24_56, CH_117_24_57]
        · simp (disch := first | omega | exact q_b_01 _) only [↓reduceIte, q_bk0, q_bk1, q_bk2, q_sg_b, q_b_0, q_b_n0, q_b_1, q_b_n1, q_b_T, q_b_F, q_sg_g, q_sg_sg, q_sg_xs, q_sg_id, q_gu_ne, q_gu_eq, q_g_fne, q_g_cpe, q_w_f, q_v_f, q_u_f, q_fn_f, q_cp_f, q_sg_pg, q_sg_hc, q_lt_t, q_lt_f, q_le_t, q_le_f, q_eq_t, q_eq_f, ne_eq, eq_self, Bool.false_eq_true, Bool.true_eq_false, not_true_eq_false, not_false_eq_true, true_and, and_true, false_and, and_false, true_or, or_true, false_or, or_false, if_true, if_false, Int.reduceAdd, Int.reduceMul, Int.reduceSub, Int.reduceNeg, t0, t1, t2, t3, c0, c1, c2, c3, eqw, decide_true, decide_false, Bool.false_and, Bool.and_false, Bool.and_true, Bool.true_and, R_117_0, R_117_3, R_117_9, R_117_18, R_117_27, R_117_30, R_117_32, R_117_38, CH_117_24_54, CH_117_24_55, CH_117_24_56, CH_117_24_57]
      · simp (disch := first | omega | exact q_b_01 _) only [↓reduceIte, q_bk0, q_bk1, q_bk2, q_sg_b, q_b_0, q_b_n0, q_b_1, q_b_n1, q_b_T, q_b_F, q_sg_g, q_sg_sg, q_sg_xs, q_sg_id, q_gu_ne, q_gu_eq, q_g_fne, q_g_cpe, q_w_f, q_v_f, q_u_f, q_fn_f, q_cp_f, q_sg_pg, q_sg_hc, q_lt_t, q_lt_f, q_le_t, q_le_f, q_eq_t, q_eq_f, ne_eq, eq_self, Bool.false_eq_true, Bool.true_eq_false, not_true_eq_false, not_false_eq_true, true_and, and_true, false_and, and_false, true_or, or_true, false_or, or_false, if_true, if_false, Int.reduceAdd, Int.reduceMul, Int.reduceSub, Int.reduceNeg, t0, t1, t2, c0, c1, c2, eqw, decide_true, decide_false, Bool.false_and, Bool.and_false, Bool.and_true, Bool.true_and, R_117_0, R_117_3, R_117_9, R_117_18, R_117_27, R_117_30, R_117_32, R_117_38, CH_117_24_54, CH_117_24_55, CH_117_24_56]
    · simp (disch := first | omega | exact q_b_01 _) only [↓reduceIte, q_bk0, q_bk1, q_bk2, q_sg_b, q_b_0, q_b_n0, q_b_1, q_b_n1, q_b_T, q_b_F, q_sg_g, q_sg_sg, q_sg_xs, q_sg_id, q_gu_ne, q_gu_eq, q_g_fne, q_g_cpe, q_w_f, q_v_f, q_u_f, q_fn_f, q_cp_f, q_sg_pg, q_sg_hc, q_lt_t, q_lt_f, q_le_t, q_le_f, q_eq_t, q_eq_f, ne_eq, eq_self, Bool.false_eq_true, Bool.true_eq_false, not_true_eq_false, not_false_eq_true, true_and, and_true, false_and, and_false, true_or, or_true, false_or, or_false, if_true, if_false, Int.reduceAdd, Int.reduceMul, Int.reduceSub, Int.reduceNeg, t0, t1, c0, c1, eqw, decide_true, decide_false, Bool.false_and, Bool.and_false, Bool.and_true, Bool.true_and, R_117_0, R_117_3, R_117_9, R_117_18, R_117_27, R_117_30, R_117_32, R_117_38, CH_117_24_54, CH_117_24_55]
  · simp (disch := first | omega | exact q_b_01 _) only [↓reduceIte, q_bk0, q_bk1, q_bk2, q_sg_b, q_b_0, q_b_n0, q_b_1, q_b_n1, q_b_T, q_b_F, q_sg_g, q_sg_sg, q_sg_xs, q_sg_id, q_gu_ne, q_gu_eq, q_g_fne, q_g_cpe, q_w_f, q_v_f, q_u_f, q_fn_f, q_cp_f, q_sg_pg, q_sg_hc, q_lt_t, q_lt_f, q_le_t, q_le_f, q_eq_t, q_eq_f, ne_eq, eq_self, Bool.false_eq_true, Bool.true_eq_false, not_true_eq_false, not_false_eq_true, true_and, and_true, false_and, and_false, true_or, or_true, false_or, or_false, if_true, if_false, Int.reduceAdd, Int.reduceMul, Int.reduceSub, Int.reduceNeg, t0, c0, eqw, decide_true, decide_false, Bool.false_and, Bool.and_false, Bool.and_true, Bool.true_and, R_117_0, R_117_3, R_117_9, R_117_18, R_117_27, R_117_30, R_117_32, R_117_38, CH_117_24_54]
theorem ws_12 {b e : Int} (b0 : 0 ≤ b) (be : b < e) (e1 : e ≤ 400) (hT : ∀ j, b ≤ j → j < e → q_g s 3 j = T j) : EV (d + 9) 116 8 [.ref 2, .int (q_I (b)), .int (q_I (e)), .int (q_I (12)), .int (q_I (54)), .int (q_I (54))] [] (q_h L xs s O c) = if e - b = 4 ∧ eqw T b [112, 97, 103, 101] = true then some (.inl (some (.int (q_I (12)))), q_h L xs (s) O c) else EV (d + 9) 116 8 [.ref 2, .int (q_I (b)), .int (q_I (e)), .int (q_I (13)), .int (q_I (59)), .int (q_I (59))] [] (q_h L xs s O c) := by
  rw [R_116_8]
  simp (disch := first | omega | exact q_b_01 _) only [↓reduceIte, q_bk0, q_bk1, q_bk2, q_sg_b, q_b_0, q_b_n0, q_b_1, q_b_n1, q_b_T, q_b_F, q_sg_g, q_sg_sg, q_sg_xs, q_sg_id, q_gu_ne, q_gu_eq, q_g_fne, q_g_cpe, q_w_f, q_v_f, q_u_f, q_fn_f, q_cp_f, q_sg_pg, q_sg_hc, q_lt_t, q_lt_f, q_le_t, q_le_f, q_eq_t, q_eq_f, ne_eq, eq_self, Bool.false_eq_true, Bool.true_eq_false, not_true_eq_false, not_false_eq_true, true_and, and_true, false_and, and_false, true_or, or_true, false_or, or_false, if_true, if_false, Int.reduceAdd, Int.reduceMul, Int.reduceSub, Int.reduceNeg, R_116_0, R_116_15, R_116_18, R_116_25, R_116_28, R_116_35, R_116_40, R_116_51, R_116_63, R_116_66, R_116_68, R_116_77, R_116_83, C_116_60, LN_116_12, LN_116_22, CH_116_32_54]
  rw [R_116_8]
  simp (disch := first | omega | exact q_b_01 _) only [↓reduceIte, q_bk0, q_bk1, q_bk2, q_sg_b, q_b_0, q_b_n0, q_b_1, q_b_n1, q_b_T, q_b_F, q_sg_g, q_sg_sg, q_sg_xs, q_sg_id, q_gu_ne, q_gu_eq, q_g_fne, q_g_cpe, q_w_f, q_v_f, q_u_f, q_fn_f, q_cp_f, q_sg_pg, q_sg_hc, q_lt_t, q_lt_f, q_le_t, q_le_f, q_eq_t, q_eq_f, ne_eq, eq_self, Bool.false_eq_true, Bool.true_eq_false, not_true_eq_false, not_false_eq_true, true_and, and_true, false_and, and_false, true_or, or_true, false_or, or_false, if_true, if_false, Int.reduceAdd, Int.reduceMul, Int.reduceSub, Int.reduceNeg, R_116_0, R_116_15, R_116_18, R_116_25, R_116_28, R_116_35, R_116_40, R_116_51, R_116_63, R_116_66, R_116_68, R_116_77, R_116_83, C_116_60, LN_116_12, LN_116_22, CH_116_32_55]
  rw [R_116_8]
  simp (disch := first | omega | exact q_b_01 _) only [↓reduceIte, q_bk0, q_bk1, q_bk2, q_sg_b, q_b_0, q_b_n0, q_b_1, q_b_n1, q_b_T, q_b_F, q_sg_g, q_sg_sg, q_sg_xs, q_sg_id, q_gu_ne, q_gu_eq, q_g_fne, q_g_cpe, q_w_f, q_v_f, q_u_f, q_fn_f, q_cp_f, q_sg_pg, q_sg_hc, q_lt_t, q_lt_f, q_le_t, q_le_f, q_eq_t, q_eq_f, ne_eq, eq_self, Bool.false_eq_true, Bool.true_eq_false, not_true_eq_false, not_false_eq_true, true_and, and_true, false_and, and_false, true_or, or_true, false_or, or_false, if_true, if_false, Int.reduceAdd, Int.reduceMul, Int.reduceSub, Int.reduceNeg, R_116_0, R_116_15, R_116_18, R_116_25, R_116_28, R_116_35, R_116_40, R_116_51, R_116_63, R_116_66, R_116_68, R_116_77, R_116_83, C_116_60, LN_116_12, LN_116_22, CH_116_32_56]
  rw [R_116_8]
  simp (disch := first | omega | exact q_b_01 _) only [↓reduceIte, q_bk0, q_bk1, q_bk2, q_sg_b, q_b_0, q_b_n0, q_b_1, q_b_n1, q_b_T, q_b_F, q_sg_g, q_sg_sg, q_sg_xs, q_sg_id, q_gu_ne, q_gu_eq, q_g_fne, q_g_cpe, q_w_f, q_v_f, q_u_f, q_fn_f, q_cp_f, q_sg_pg, q_sg_hc, q_lt_t, q_lt_f, q_le_t, q_le_f, q_eq_t, q_eq_f, ne_eq, eq_self, Bool.false_eq_true, Bool.true_eq_false, not_true_eq_false, not_false_eq_true, true_and, and_true, false_and, and_false, true_or, or_true, false_or, or_false, if_true, if_false, Int.reduceAdd, Int.reduceMul, Int.reduceSub, Int.reduceNeg, R_116_0, R_116_15, R_116_18, R_116_25, R_116_28, R_116_35, R_116_40, R_116_51, R_116_63, R_116_66, R_116_68, R_116_77, R_116_83, C_116_60, LN_116_12, LN_116_22, CH_116_32_57]
  rw [R_116_8]
  by_cases c1 : e - b = 4
  · have sm := sm_12 (d := d) (L := L) (xs := xs) (s := s) (O := O) (c := c) (T := T) b0 (by omega) (fun j h1 h2 => hT j h1 (by omega))
    by_cases c2 : eqw T b [112, 97, 103, 101] = true
    · rw [if_pos ⟨c1, c2⟩]
      rw [q_bt c2] at sm
      simp (disch := first | omega | exact q_b_01 _) only [↓reduceIte, q_bk0, q_bk1, q_bk2, q_sg_b, q_b_0, q_b_n0, q_b_1, q_b_n1, q_b_T, q_b_F, q_sg_g, q_sg_sg, q_sg_xs, q_sg_id, q_gu_ne, q_gu_eq, q_g_fne, q_g_cpe, q_w_f, q_v_f, q_u_f, q_fn_f, q_cp_f, q_sg_pg, q_sg_hc, q_lt_t, q_lt_f, q_le_t, q_le_f, q_eq_t, q_eq_f, ne_eq, eq_self, Bool.false_eq_true, Bool.true_eq_false, not_true_eq_false, not_false_eq_true, true_and, and_true, false_and, and_false, true_or, or_true, false_or, or_false, if_true, if_false, Int.reduceAdd, Int.reduceMul, Int.reduceSub, Int.reduceNeg, sm, R_116_0, R_116_15, R_116_18, R_116_25, R_116_28, R_116_35, R_116_40, R_116_51, R_116_63, R_116_66, R_116_68, R_116_77, R_116_83, C_116_60, LN_116_12, LN_116_22, CH_116_32_58]
    · rw [if_neg (fun h => c2 h.2)]
      rw [q_bf c2] at sm
      simp (disch := first | omega | exact q_b_01 _) only [↓reduceIte, q_bk0, q_bk1, q_bk2, q_sg_b, q_b_0, q_b_n0, q_b_1, q_b_n1, q_b_T, q_b_F, q_sg_g, q_sg_sg, q_sg_xs, q_sg_id, q_gu_ne, q_gu_eq, q_g_fne, q_g_cpe, q_w_f, q_v_f, q_u_f, q_fn_f, q_cp_f, q_sg_pg, q_sg_hc, q_lt_t, q_lt_f, q_le_t, q_le_f, q_eq_t, q_eq_f, ne_eq, eq_self, Bool.false_eq_true, Bool.true_eq_false, not_true_eq_false, not_false_eq_true, true_and, and_true, false_and, and_false, true_or, or_true, false_or, or_false, if_true, if_false, Int.reduceAdd, Int.reduceMul, Int.reduceSub, Int.reduceNeg, sm, R_116_0, R_116_15, R_116_18, R_116_25, R_116_28, R_116_35, R_116_40, R_116_51, R_116_63, R_116_66, R_116_68, R_116_77, R_116_83, C_116_60, LN_116_12, LN_116_22, CH_116_32_58]
  · rw [if_neg (fun h => c1 h.1)]
    simp (disch := first | omega | exact q_b_01 _) only [↓reduceIte, q_bk0, q_bk1, q_bk2, q_sg_b, q_b_0, q_b_n0, q_b_1, q_b_n1, q_b_T, q_b_F, q_sg_g, q_sg_sg, q_sg_xs, q_sg_id, q_gu_ne, q_gu_eq, q_g_fne, q_g_cpe, q_w_f, q_v_f, q_u_f, q_fn_f, q_cp_f, q_sg_pg, q_sg_hc, q_lt_t, q_lt_f, q_le_t, q_le_f, q_eq_t, q_eq_f, ne_eq, eq_self, Bool.false_eq_true, Bool.true_eq_false, not_true_eq_false, not_false_eq_true, true_and, and_true, false_and, and_false, true_or, or_true, false_or, or_false, if_true, if_false, Int.reduceAdd, Int.reduceMul, Int.reduceSub, Int.reduceNeg, R_116_0, R_116_15, R_116_18, R_116_25, R_116_28, R_116_35, R_116_40, R_116_51, R_116_63, R_116_66, R_116_68, R_116_77, R_116_83, C_116_60, LN_116_12, LN_116_22, CH_116_32_58]
theorem sm_13 {b : Int} (b0 : 0 ≤ b) (b1 : b + 4 ≤ 400) (hT : ∀ j, b ≤ j → j < b + 4 → q_g s 3 j = T j) : EV (d + 8) 117 0 [.ref 2, .int (q_I b), .int (q_I 59), .int (q_I 4), .null] [] (q_h L xs s O c) = some (.inl (some (.int (q_I (q_b (eqw T b [107, 105, 110, 100] = true))))), q_h L xs (s) O c) := by
  have t0 : q_g s 3 (b + 0) = T b := by
    rw [hT (b + 0) (by omega) (by omega)]
    rw [Int.add_zero]
  have t1 : q_g s 3 (b + 1) = T (b + 1) := by
    rw [hT (b + 1) (by omega) (by omega)]
  have t2 : q_g s 3 (b + 2) = T (b + 1 + 1) := by
    rw [hT (b + 2) (by omega) (by omega)]
    rw [show b + 1 + 1 = b + 2 by omega]
  have t3 : q_g s 3 (b + 3) = T (b + 1 + 1 + 1) := by
    rw [hT (b + 3) (by omega) (by omega)]
    rw [show b + 1 + 1 + 1 = b + 3 by omega]
  have r0 := q_g_rg s 3 (b + 0)
  rw [t0] at r0
  have r1 := q_g_rg s 3 (b + 1)
  rw [t1] at r1
  have r2 := q_g_rg s 3 (b + 2)
  rw [t2] at r2
  have r3 := q_g_rg s 3 (b + 3)
  rw [t3] at r3
  by_cases c0 : T b = 107
  · skip
    by_cases c1 : T (b + 1) = 105
    · skip
      by_cases c2 : T (b + 1 + 1) = 110
      · skip
        by_cases c3 : T (b + 1 + 1 + 1) = 100
        · simp (disch := first | omega | exact q_b_01 _) only [↓reduceIte, q_bk0, q_bk1, q_bk2, q_sg_b, q_b_0, q_b_n0, q_b_1, q_b_n1, q_b_T, q_b_F, q_sg_g, q_sg_sg, q_sg_xs, q_sg_id, q_gu_ne, q_gu_eq, q_g_fne, q_g_cpe, q_w_f, q_v_f, q_u_f, q_fn_f, q_cp_f, q_sg_pg, q_sg_hc, q_lt_t, q_lt_f, q_le_t, q_le_f, q_eq_t, q_eq_f, ne_eq, eq_self, Bool.false_eq_true, Bool.true_eq_false, not_true_eq_false, not_false_eq_true, true_and, and_true, false_and, and_false, true_or, or_true, false_or, or_false, if_true, if_false, Int.reduceAdd, Int.reduceMul, Int.reduceSub, Int.reduceNeg, t0, t1, t2, t3, c0, c1, c2, c3, eqw, decide_true, Bool.and_self, Bool.and_true, Bool.true_and, R_117_0, R_117_3, R_117_9, R_117_18, R_117_27, R_117_30, R_117_32, R_117_38, CH_117_24_59, CH_117_24_60, CH_117_24_61, CH_117_24_62]
        · simp (disch := first | omega | exact q_b_01 _) only [↓reduceIte, q_bk0, q_bk1, q_bk2, q_sg_b, q_b_0, q_b_n0, q_b_1, q_b_n1, q_b_T, q_b_F, q_sg_g, q_sg_sg, q_sg_xs, q_sg_id, q_gu_ne, q_gu_eq, q_g_fne, q_g_cpe, q_w_f, q_v_f, q_u_f, q_fn_f, q_cp_f, q_sg_pg, q_sg_hc, q_lt_t, q_lt_f, q_le_t, q_le_f, q_eq_t, q_eq_f, ne_eq, eq_self, Bool.false_eq_true, Bool.true_eq_false, not_true_eq_false, not_false_eq_true, true_and, and_true, false_and, and_false, true_or, or_true, false_or, or_false, if_true, if_false, Int.reduceAdd, Int.reduceMul, Int.reduceSub, Int.reduceNeg, t0, t1, t2, t3, c0, c1, c2, c3, eqw, decide_true, decide_false, Bool.false_and, Bool.and_false, Bool.and_true, Bool.true_and, R_117_0, R_117_3, R_117_9, R_117_18, R_117_27, R_117_30, R_117_32, R_117_38, CH_117_24_59, CH_117_24_60, CH_117_24_61, CH_117_24_62]
      · simp (disch := first | omega | exact q_b_01 _) only [↓reduceIte, q_bk0, q_bk1, q_bk2, q_sg_b, q_b_0, q_b_n0, q_b_1, q_b_n1, q_b_T, q_b_F, q_sg_g, q_sg_sg, q_sg_xs, q_sg_id, q_gu_ne, q_gu_eq, q_g_fne, q_g_cpe, q_w_f, q_v_f, q_u_f, q_fn_f, q_cp_f, q_sg_pg, q_sg_hc, q_lt_t, q_lt_f, q_le_t, q_le_f, q_eq_t, q_eq_f, ne_eq, eq_self, Bool.false_eq_true, Bool.true_eq_false, not_true_eq_false, not_false_eq_true, true_and, and_true, false_and, and_false, true_or, or_true, false_or, or_false, if_true, if_false, Int.reduceAdd, Int.reduceMul, Int.reduceSub, Int.reduceNeg, t0, t1, t2, c0, c1, c2, eqw, decide_true, decide_false, Bool.false_and, Bool.and_false, Bool.and_true, Bool.true_and, R_117_0, R_117_3, R_117_9, R_117_18, R_117_27, R_117_30, R_117_32, R_117_38, CH_117_24_59, CH_117_24_60, CH_117_24_61]
    · simp (disch := first | omega | exact q_b_01 _) only [↓reduceIte, q_bk0, q_bk1, q_bk2, q_sg_b, q_b_0, q_b_n0, q_b_1, q_b_n1, q_b_T, q_b_F, q_sg_g, q_sg_sg, q_sg_xs, q_sg_id, q_gu_ne, q_gu_eq, q_g_fne, q_g_cpe, q_w_f, q_v_f, q_u_f, q_fn_f, q_cp_f, q_sg_pg, q_sg_hc, q_lt_t, q_lt_f, q_le_t, q_le_f, q_eq_t, q_eq_f, ne_eq, eq_self, Bool.false_eq_true, Bool.true_eq_false, not_true_eq_false, not_false_eq_true, true_and, and_true, false_and, and_false, true_or, or_true, false_or, or_false, if_true, if_false, Int.reduceAdd, Int.reduceMul, Int.reduceSub, Int.reduceNeg, t0, t1, c0, c1, eqw, decide_true, decide_false, Bool.false_and, Bool.and_false, Bool.and_true, Bool.true_and, R_117_0, R_117_3, R_117_9, R_117_18, R_117_27, R_117_30, R_117_32, R_117_38, CH_117_24_59, CH_117_24_60]
  · simp (disch := first | omega | exact q_b_01 _) only [↓reduceIte, q_bk0, q_bk1, q_bk2, q_sg_b, q_b_0, q_b_n0, q_b_1, q_b_n1, q_b_T, q_b_F, q_sg_g, q_sg_sg, q_sg_xs, q_sg_id, q_gu_ne, q_gu_eq, q_g_fne, q_g_cpe, q_w_f, q_v_f, q_u_f, q_fn_f, q_cp_f, q_sg_pg, q_sg_hc, q_lt_t, q_lt_f, q_le_t, q_le_f, q_eq_t, q_eq_f, ne_eq, eq_self, Bool.false_eq_true, Bool.true_eq_false, not_true_eq_false, not_false_eq_true, true_and, and_true, false_and, and_false, true_or, or_true, false_or, or_false, if_true, if_false, Int.reduceAdd, Int.reduceMul, Int.reduceSub, Int.reduceNeg, t0, c0, eqw, decide_true, decide_false, Bool.false_and, Bool.and_false, Bool.and_true, Bool.true_and, R_117_0, R_117_3, R_117_9, R_117_18, R_117_27, R_117_30, R_117_32, R_117_38, CH_117_24_59]
theorem ws_13 {b e : Int} (b0 : 0 ≤ b) (be : b < e) (e1 : e ≤ 400) (hT : ∀ j, b ≤ j → j < e → q_g s 3 j = T j) : EV (d + 9) 116 8 [.ref 2, .int (q_I (b)), .int (q_I (e)), .int (q_I (13)), .int (q_I (59)), .int (q_I (59))] [] (q_h L xs s O c) = if e - b = 4 ∧ eqw T b [107, 105, 110, 100] = true then some (.inl (some (.int (q_I (13)))), q_h L xs (s) O c) else EV (d + 9) 116 8 [.ref 2, .int (q_I (b)), .int (q_I (e)), .int (q_I (14)), .int (q_I (64)), .int (q_I (64))] [] (q_h L xs s O c) := by
  rw [R_116_8]
  simp (disch := first | omega | exact q_b_01 _) only [↓reduceIte, q_bk0, q_bk1, q_bk2, q_sg_b, q_b_0, q_b_n0, q_b_1, q_b_n1, q_b_T, q_b_F, q_sg_g, q_sg_sg, q_sg_xs, q_sg_id, q_gu_ne, q_gu_eq, q_g_fne, q_g_cpe, q_w_f, q_v_f, q_u_f, q_fn_f, q_cp_f, q_sg_pg, q_sg_hc, q_lt_t, q_lt_f, q_le_t, q_le_f, q_eq_t, q_eq_f, ne_eq, eq_self, Bool.false_eq_true, Bool.true_eq_false, not_true_eq_false, not_false_eq_true, true_and, and_true, false_and, and_false, true_or, or_true, false_or, or_false, if_true, if_false, Int.reduceAdd, Int.reduceMul, Int.reduceSub, Int.reduceNeg, R_116_0, R_116_15, R_116_18, R_116_25, R_116_28, R_116_35, R_116_40, R_116_51, R_116_63, R_116_66, R_116_68, R_116_77, R_116_83, C_116_60, LN_116_12, LN_116_22, CH_116_32_59]
  rw [R_116_8]
  simp (disch := first | omega | exact q_b_01 _) only [↓reduceIte, q_bk0, q_bk1, q_bk2, q_sg_b, q_b_0, q_b_n0, q_b_1, q_b_n1, q_b_T, q_b_F, q_sg_g, q_sg_sg, q_sg_xs, q_sg_id, q_gu_ne, q_gu_eq, q_g_fne, q_g_cpe, q_w_f, q_v_f, q_u_f, q_fn_f, q_cp_f, q_sg_pg, q_sg_hc, q_lt_t, q_lt_f, q_le_t, q_le_f, q_eq_t, q_eq_f, ne_eq, eq_self, Bool.false_eq_true, Bool.true_eq_false, not_true_eq_false, not_false_eq_true, true_and, and_true, false_and, and_false, true_or, or_true, false_or, or_false, if_true, if_false, Int.reduceAdd, Int.reduceMul, Int.reduceSub, Int.reduceNeg, R_116_0, R_116_15, R_116_18, R_116_25, R_116_28, R_116_35, R_116_40, R_116_51, R_116_63, R_116_66, R_116_68, R_116_77, R_116_83, C_116_60, LN_116_12, LN_116_22, CH_116_32_60]
  rw [R_116_8]
  simp (disch := first | omega | exact q_b_01 _) only [↓reduceIte, q_bk0, q_bk1, q_bk2, q_sg_b, q_b_0, q_b_n0, q_b_1, q_b_n1, q_b_T, q_b_F, q_sg_g, q_sg_sg, q_sg_xs, q_sg_id, q_gu_ne, q_gu_eq, q_g_fne, q_g_cpe, q_w_f, q_v_f, q_u_f, q_fn_f, q_cp_f, q_sg_pg, q_sg_hc, q_lt_t, q_lt_f, q_le_t, q_le_f, q_eq_t, q_eq_f, ne_eq, eq_self, Bool.false_eq_true, Bool.true_eq_false, not_true_eq_false, not_false_eq_true, true_and, and_true, false_and, and_false, true_or, or_true, false_or, or_false, if_true, if_false, Int.reduceAdd, Int.reduceMul, Int.reduceSub, Int.reduceNeg, R_116_0, R_116_15, R_116_18, R_116_25, R_116_28, R_116_35, R_116_40, R_116_51, R_116_63, R_116_66, R_116_68, R_116_77, R_116_83, C_116_60, LN_116_12, LN_116_22, CH_116_32_61]
  rw [R_116_8]
  simp (disch := first | omega | exact q_b_01 _) only [↓reduceIte, q_bk0, q_bk1, q_bk2, q_sg_b, q_b_0, q_b_n0, q_b_1, q_b_n1, q_b_T, q_b_F, q_sg_g, q_sg_sg, q_sg_xs, q_sg_id, q_gu_ne, q_gu_eq, q_g_fne, q_g_cpe, q_w_f, q_v_f, q_u_f, q_fn_f, q_cp_f, q_sg_pg, q_sg_hc, q_lt_t, q_lt_f, q_le_t, q_le_f, q_eq_t, q_eq_f, ne_eq, eq_self, Bool.false_eq_true, Bool.true_eq_false, not_true_eq_false, not_false_eq_true, true_and, and_true, false_and, and_false, true_or, or_true, false_or, or_false, if_true, if_false, Int.reduceAdd, Int.reduceMul, Int.reduceSub, Int.reduceNeg, R_116_0, R_116_15, R_116_18, R_116_25, R_116_28, R_116_35, R_116_40, R_116_51, R_116_63, R_116_66, R_116_68, R_116_77, R_116_83, C_116_60, LN_116_12, LN_116_22, CH_116_32_62]
  rw [R_116_8]
  by_cases c1 : e - b = 4
  · have sm := sm_13 (d := d) (L := L) (xs := xs) (s := s) (O := O) (c := c) (T := T) b0 (by omega) (fun j h1 h2 => hT j h1 (by omega))
    by_cases c2 : eqw T b [107, 105, 110, 100] = true
    · rw [if_pos ⟨c1, c2⟩]
      rw [q_bt c2] at sm
      simp (disch := first | omega | exact q_b_01 _) only [↓reduceIte, q_bk0, q_bk1, q_bk2, q_sg_b, q_b_0, q_b_n0, q_b_1, q_b_n1, q_b_T, q_b_F, q_sg_g, q_sg_sg, q_sg_xs, q_sg_id, q_gu_ne, q_gu_eq, q_g_fne, q_g_cpe, q_w_f, q_v_f, q_u_f, q_fn_f, q_cp_f, q_sg_pg, q_sg_hc, q_lt_t, q_lt_f, q_le_t, q_le_f, q_eq_t, q_eq_f, ne_eq, eq_self, Bool.false_eq_true, Bool.true_eq_false, not_true_eq_false, not_false_eq_true, true_and, and_true, false_and, and_false, true_or, or_true, false_or, or_false, if_true, if_false, Int.reduceAdd, Int.reduceMul, Int.reduceSub, Int.reduceNeg, sm, R_116_0, R_116_15, R_116_18, R_116_25, R_116_28, R_116_35, R_116_40, R_116_51, R_116_63, R_116_66, R_116_68, R_116_77, R_116_83, C_116_60, LN_116_12, LN_116_22, CH_116_32_63]
    · rw [if_neg (fun h => c2 h.2)]
      rw [q_bf c2] at sm
      simp (disch := first | omega | exact q_b_01 _) only [↓reduceIte, q_bk0, q_bk1, q_bk2, q_sg_b, q_b_0, q_b_n0, q_b_1, q_b_n1, q_b_T, q_b_F, q_sg_g, q_sg_sg, q_sg_xs, q_sg_id, q_gu_ne, q_gu_eq, q_g_fne, q_g_cpe, q_w_f, q_v_f, q_u_f, q_fn_f, q_cp_f, q_sg_pg, q_sg_hc, q_lt_t, q_lt_f, q_le_t, q_le_f, q_eq_t, q_eq_f, ne_eq, eq_self, Bool.false_eq_true, Bool.true_eq_false, not_true_eq_false, not_false_eq_true, true_and, and_true, false_and, and_false, true_or, or_true, false_or, or_false, if_true, if_false, Int.reduceAdd, Int.reduceMul, Int.reduceSub, Int.reduceNeg, sm, R_116_0, R_116_15, R_116_18, R_116_25, R_116_28, R_116_35, R_116_40, R_116_51, R_116_63, R_116_66, R_116_68, R_116_77, R_116_83, C_116_60, LN_116_12, LN_116_22, CH_116_32_63]
  · rw [if_neg (fun h => c1 h.1)]
    simp (disch := first | omega | exact q_b_01 _) only [↓reduceIte, q_bk0, q_bk1, q_bk2, q_sg_b, q_b_0, q_b_n0, q_b_1, q_b_n1, q_b_T, q_b_F, q_sg_g, q_sg_sg, q_sg_xs, q_sg_id, q_gu_ne, q_gu_eq, q_g_fne, q_g_cpe, q_w_f, q_v_f, q_u_f, q_fn_f, q_cp_f, q_sg_pg, q_sg_hc, q_lt_t, q_lt_f, q_le_t, q_le_f, q_eq_t, q_eq_f, ne_eq, eq_self, Bool.false_eq_true, Bool.true_eq_false, not_true_eq_false, not_false_eq_true, true_and, and_true, false_and, and_false, true_or, or_true, false_or, or_false, if_true, if_false, Int.reduceAdd, Int.reduceMul, Int.reduceSub, Int.reduceNeg, R_116_0, R_116_15, R_116_18, R_116_25, R_116_28, R_116_35, R_116_40, R_116_51, R_116_63, R_116_66, R_116_68, R_116_77, R_116_83, C_116_60, LN_116_12, LN_116_22, CH_116_32_63]
theorem sm_14 {b : Int} (b0 : 0 ≤ b) (b1 : b + 4 ≤ 400) (hT : ∀ j, b ≤ j → j < b + 4 → q_g s 3 j = T j) : EV (d + 8) 117 0 [.ref 2, .int (q_I b), .int (q_I 64), .int (q_I 4), .null] [] (q_h L xs s O c) = some (.inl (some (.int (q_I (q_b (eqw T b [119, 101, 97, 114] = true))))), q_h L xs (s) O c) := by
  have t0 : q_g s 3 (b + 0) = T b := by
    rw [hT (b + 0) (by omega) (by omega)]
    rw [Int.add_zero]
  have t1 : q_g s 3 (b + 1) = T (b + 1) := by
    rw [hT (b + 1) (by omega) (by omega)]
  have t2 : q_g s 3 (b + 2) = T (b + 1 + 1) := by
    rw [hT (b + 2) (by omega) (by omega)]
    rw [show b + 1 + 1 = b + 2 by omega]
  have t3 : q_g s 3 (b + 3) = T (b + 1 + 1 + 1) := by
    rw [hT (b + 3) (by omega) (by omega)]
    rw [show b + 1 + 1 + 1 = b + 3 by omega]
  have r0 := q_g_rg s 3 (b + 0)
  rw [t0] at r0
  have r1 := q_g_rg s 3 (b + 1)
  rw [t1] at r1
  have r2 := q_g_rg s 3 (b + 2)
  rw [t2] at r2
  have r3 := q_g_rg s 3 (b + 3)
  rw [t3] at r3
  by_cases c0 : T b = 119
  · skip
    by_cases c1 : T (b + 1) = 101
    · skip
      by_cases c2 : T (b + 1 + 1) = 97
      · skip
        by_cases c3 : T (b + 1 + 1 + 1) = 114
        · simp (disch := first | omega | exact q_b_01 _) only [↓reduceIte, q_bk0, q_bk1, q_bk2, q_sg_b, q_b_0, q_b_n0, q_b_1, q_b_n1, q_b_T, q_b_F, q_sg_g, q_sg_sg, q_sg_xs, q_sg_id, q_gu_ne, q_gu_eq, q_g_fne, q_g_cpe, q_w_f, q_v_f, q_u_f, q_fn_f, q_cp_f, q_sg_pg, q_sg_hc, q_lt_t, q_lt_f, q_le_t, q_le_f, q_eq_t, q_eq_f, ne_eq, eq_self, Bool.false_eq_true, Bool.true_eq_false, not_true_eq_false, not_false_eq_true, true_and, and_true, false_and, and_false, true_or, or_true, false_or, or_false, if_true, if_false, Int.reduceAdd, Int.reduceMul, Int.reduceSub, Int.reduceNeg, t0, t1, t2, t3, c0, c1, c2, c3, eqw, decide_true, Bool.and_self, Bool.and_true, Bool.true_and, R_117_0, R_117_3, R_117_9, R_117_18, R_117_27, R_117_30, R_117_32, R_117_38, CH_117_24_64, CH_117_24_65, CH_117_24_66, CH_117_24_67]
        · simp (disch := first | omega | exact q_b_01 _) only [↓reduceIte, q_bk0, q_bk1, q_bk2, q_sg_b, q_b_0, q_b_n0, q_b_1, q_b_n1, q_b_T, q_b_F, q_sg_g, q_sg_sg, q_sg_xs, q_sg_id, q_gu_ne, q_gu_eq, q_g_fne, q_g_cpe, q_w_f, q_v_f, q_u_f, q_fn_f, q_cp_f, q_sg_pg, q_sg_hc, q_lt_t, q_lt_f, q_le_t, q_le_f, q_eq_t, q_eq_f, ne_eq, eq_self, Bool.false_eq_true, Bool.true_eq_false, not_true_eq_false, not_false_eq_true, true_and, and_true, false_and, and_false, true_or, or_true, false_or, or_false, if_true, if_false, Int.reduceAdd, Int.reduceMul, Int.reduceSub, Int.reduceNeg, t0, t1, t2, t3, c0, c1, c2, c3, eqw, decide_true, decide_false, Bool.false_and, Bool.and_false, Bool.and_true, Bool.true_and, R_117_0, R_117_3, R_117_9, R_117_18, R_117_27, R_117_30, R_117_32, R_117_38, CH_117_24_64, CH_117_24_65, CH_117_24_66, CH_117_24_67]
      · simp (disch := first | omega | exact q_b_01 _) only [↓reduceIte, q_bk0, q_bk1, q_bk2, q_sg_b, q_b_0, q_b_n0, q_b_1, q_b_n1, q_b_T, q_b_F, q_sg_g, q_sg_sg, q_sg_xs, q_sg_id, q_gu_ne, q_gu_eq, q_g_fne, q_g_cpe, q_w_f, q_v_f, q_u_f, q_fn_f, q_cp_f, q_sg_pg, q_sg_hc, q_lt_t, q_lt_f, q_le_t, q_le_f, q_eq_t, q_eq_f, ne_eq, eq_self, Bool.false_eq_true, Bool.true_eq_false, not_true_eq_false, not_false_eq_true, true_and, and_true, false_and, and_false, true_or, or_true, false_or, or_false, if_true, if_false, Int.reduceAdd, Int.reduceMul, Int.reduceSub, Int.reduceNeg, t0, t1, t2, c0, c1, c2, eqw, decide_true, decide_false, Bool.false_and, Bool.and_false, Bool.and_true, Bool.true_and, R_117_0, R_117_3, R_117_9, R_117_18, R_117_27, R_117_30, R_117_32, R_117_38, CH_117_24_64, CH_117_24_65, CH_117_24_66]
    · simp (disch := first | omega | exact q_b_01 _) only [↓reduceIte, q_bk0, q_bk1, q_bk2, q_sg_b, q_b_0, q_b_n0, q_b_1, q_b_n1, q_b_T, q_b_F, q_sg_g, q_sg_sg, q_sg_xs, q_sg_id, q_gu_ne, q_gu_eq, q_g_fne, q_g_cpe, q_w_f, q_v_f, q_u_f, q_fn_f, q_cp_f, q_sg_pg, q_sg_hc, q_lt_t, q_lt_f, q_le_t, q_le_f, q_eq_t, q_eq_f, ne_eq, eq_self, Bool.false_eq_true, Bool.true_eq_false, not_true_eq_false, not_false_eq_true, true_and, and_true, false_and, and_false, true_or, or_true, false_or, or_false, if_true, if_false, Int.reduceAdd, Int.reduceMul, Int.reduceSub, Int.reduceNeg, t0, t1, c0, c1, eqw, decide_true, decide_false, Bool.false_and, Bool.and_false, Bool.and_true, Bool.true_and, R_117_0, R_117_3, R_117_9, R_117_18, R_117_27, R_117_30, R_117_32, R_117_38, CH_117_24_64, CH_117_24_65]
  · simp (disch := first | omega | exact q_b_01 _) only [↓reduceIte, q_bk0, q_bk1, q_bk2, q_sg_b, q_b_0, q_b_n0, q_b_1, q_b_n1, q_b_T, q_b_F, q_sg_g, q_sg_sg, q_sg_xs, q_sg_id, q_gu_ne, q_gu_eq, q_g_fne, q_g_cpe, q_w_f, q_v_f, q_u_f, q_fn_f, q_cp_f, q_sg_pg, q_sg_hc, q_lt_t, q_lt_f, q_le_t, q_le_f, q_eq_t, q_eq_f, ne_eq, eq_self, Bool.false_eq_true, Bool.true_eq_false, not_true_eq_false, not_false_eq_true, true_and, and_true, false_and, and_false, true_or, or_true, false_or, or_false, if_true, if_false, Int.reduceAdd, Int.reduceMul, Int.reduceSub, Int.reduceNeg, t0, c0, eqw, decide_true, decide_false, Bool.false_and, Bool.and_false, Bool.and_true, Bool.true_and, R_117_0, R_117_3, R_117_9, R_117_18, R_117_27, R_117_30, R_117_32, R_117_38, CH_117_24_64]
theorem ws_14 {b e : Int} (b0 : 0 ≤ b) (be : b < e) (e1 : e ≤ 400) (hT : ∀ j, b ≤ j → j < e → q_g s 3 j = T j) : EV (d + 9) 116 8 [.ref 2, .int (q_I (b)), .int (q_I (e)), .int (q_I (14)), .int (q_I (64)), .int (q_I (64))] [] (q_h L xs s O c) = if e - b = 4 ∧ eqw T b [119, 101, 97, 114] = true then some (.inl (some (.int (q_I (14)))), q_h L xs (s) O c) else EV (d + 9) 116 8 [.ref 2, .int (q_I (b)), .int (q_I (e)), .int (q_I (15)), .int (q_I (69)), .int (q_I (69))] [] (q_h L xs s O c) := by
  rw [R_116_8]
  simp (disch := first | omega | exact q_b_01 _) only [↓reduceIte, q_bk0, q_bk1, q_bk2, q_sg_b, q_b_0, q_b_n0, q_b_1, q_b_n1, q_b_T, q_b_F, q_sg_g, q_sg_sg, q_sg_xs, q_sg_id, q_gu_ne, q_gu_eq, q_g_fne, q_g_cpe, q_w_f, q_v_f, q_u_f, q_fn_f, q_cp_f, q_sg_pg, q_sg_hc, q_lt_t, q_lt_f, q_le_t, q_le_f, q_eq_t, q_eq_f, ne_eq, eq_self, Bool.false_eq_true, Bool.true_eq_false, not_true_eq_false, not_false_eq_true, true_and, and_true, false_and, and_false, true_or, or_true, false_or, or_false, if_true, if_false, Int.reduceAdd, Int.reduceMul, Int.reduceSub, Int.reduceNeg, R_116_0, R_116_15, R_116_18, R_116_25, R_116_28, R_116_35, R_116_40, R_116_51, R_116_63, R_116_66, R_116_68, R_116_77, R_116_83, C_116_60, LN_116_12, LN_116_22, CH_116_32_64]
  rw [R_116_8]
  simp (disch := first | omega | exact q_b_01 _) only [↓reduceIte, q_bk0, q_bk1, q_bk2, q_sg_b, q_b_0, q_b_n0, q_b_1, q_b_n1, q_b_T, q_b_F, q_sg_g, q_sg_sg, q_sg_xs, q_sg_id, q_gu_ne, q_gu_eq, q_g_fne, q_g_cpe, q_w_f, q_v_f, q_u_f, q_fn_f, q_cp_f, q_sg_pg, q_sg_hc, q_lt_t, q_lt_f, q_le_t, q_le_f, q_eq_t, q_eq_f, ne_eq, eq_self, Bool.false_eq_true, Bool.true_eq_false, not_true_eq_false, not_false_eq_true, true_and, and_true, false_and, and_false, true_or, or_true, false_or, or_false, if_true, if_false, Int.reduceAdd, Int.reduceMul, Int.reduceSub, Int.reduceNeg, R_116_0, R_116_15, R_116_18, R_116_25, R_116_28, R_116_35, R_116_40, R_116_51, R_116_63, R_116_66, R_116_68, R_116_77, R_116_83, C_116_60, LN_116_12, LN_116_22, CH_116_32_65]
  rw [R_116_8]
  simp (disch := first | omega | exact q_b_01 _) only [↓reduceIte, q_bk0, q_bk1, q_bk2, q_sg_b, q_b_0, q_b_n0, q_b_1, q_b_n1, q_b_T, q_b_F, q_sg_g, q_sg_sg, q_sg_xs, q_sg_id, q_gu_ne, q_gu_eq, q_g_fne, q_g_cpe, q_w_f, q_v_f, q_u_f, q_fn_f, q_cp_f, q_sg_pg, q_sg_hc, q_lt_t, q_lt_f, q_le_t, q_le_f, q_eq_t, q_eq_f, ne_eq, eq_self, Bool.false_eq_true, Bool.true_eq_false, not_true_eq_false, not_false_eq_true, true_and, and_true, false_and, and_false, true_or, or_true, false_or, or_false, if_true, if_false, Int.reduceAdd, Int.reduceMul, Int.reduceSub, Int.reduceNeg, R_116_0, R_116_15, R_116_18, R_116_25, R_116_28, R_116_35, R_116_40, R_116_51, R_116_63, R_116_66, R_116_68, R_116_77, R_116_83, C_116_60, LN_116_12, LN_116_22, CH_116_32_66]
  rw [R_116_8]
  simp (disch := first | omega | exact q_b_01 _) only [↓reduceIte, q_bk0, q_bk1, q_bk2, q_sg_b, q_b_0, q_b_n0, q_b_1, q_b_n1, q_b_T, q_b_F, q_sg_g, q_sg_sg, q_sg_xs, q_sg_id, q_gu_ne, q_gu_eq, q_g_fne, q_g_cpe, q_w_f, q_v_f, q_u_f, q_fn_f, q_cp_f, q_sg_pg, q_sg_hc, q_lt_t, q_lt_f, q_le_t, q_le_f, q_eq_t, q_eq_f, ne_eq, eq_self, Bool.false_eq_true, Bool.true_eq_false, not_true_eq_false, not_false_eq_true, true_and, and_true, false_and, and_false, true_or, or_true, false_or, or_false, if_true, if_false, Int.reduceAdd, Int.reduceMul, Int.reduceSub, Int.reduceNeg, R_116_0, R_116_15, R_116_18, R_116_25, R_116_28, R_116_35, R_116_40, R_116_51, R_116_63, R_116_66, R_116_68, R_116_77, R_116_83, C_116_60, LN_116_12, LN_116_22, CH_116_32_67]
  rw [R_116_8]
  by_cases c1 : e - b = 4
  · have sm := sm_14 (d := d) (L := L) (xs := xs) (s := s) (O := O) (c := c) (T := T) b0 (by omega) (fun j h1 h2 => hT j h1 (by omega))
    by_cases c2 : eqw T b [119, 101, 97, 114] = true
    · rw [if_pos ⟨c1, c2⟩]
      rw [q_bt c2] at sm
      simp (disch := first | omega | exact q_b_01 _) only [↓reduceIte, q_bk0, q_bk1, q_bk2, q_sg_b, q_b_0, q_b_n0, q_b_1, q_b_n1, q_b_T, q_b_F, q_sg_g, q_sg_sg, q_sg_xs, q_sg_id, q_gu_ne, q_gu_eq, q_g_fne, q_g_cpe, q_w_f, q_v_f, q_u_f, q_fn_f, q_cp_f, q_sg_pg, q_sg_hc, q_lt_t, q_lt_f, q_le_t, q_le_f, q_eq_t, q_eq_f, ne_eq, eq_self, Bool.false_eq_true, Bool.true_eq_false, not_true_eq_false, not_false_eq_true, true_and, and_true, false_and, and_false, true_or, or_true, false_or, or_false, if_true, if_false, Int.reduceAdd, Int.reduceMul, Int.reduceSub, Int.reduceNeg, sm, R_116_0, R_116_15, R_116_18, R_116_25, R_116_28, R_116_35, R_116_40, R_116_51, R_116_63, R_116_66, R_116_68, R_116_77, R_116_83, C_116_60, LN_116_12, LN_116_22, CH_116_32_68]
    · rw [if_neg (fun h => c2 h.2)]
      rw [q_bf c2] at sm
      simp (disch := first | omega | exact q_b_01 _) only [↓reduceIte, q_bk0, q_bk1, q_bk2, q_sg_b, q_b_0, q_b_n0, q_b_1, q_b_n1, q_b_T, q_b_F, q_sg_g, q_sg_sg, q_sg_xs, q_sg_id, q_gu_ne, q_gu_eq, q_g_fne, q_g_cpe, q_w_f, q_v_f, q_u_f, q_fn_f, q_cp_f, q_sg_pg, q_sg_hc, q_lt_t, q_lt_f, q_le_t, q_le_f, q_eq_t, q_eq_f, ne_eq, eq_self, Bool.false_eq_true, Bool.true_eq_false, not_true_eq_false, not_false_eq_true, true_and, and_true, false_and, and_false, true_or, or_true, false_or, or_false, if_true, if_false, Int.reduceAdd, Int.reduceMul, Int.reduceSub, Int.reduceNeg, sm, R_116_0, R_116_15, R_116_18, R_116_25, R_116_28, R_116_35, R_116_40, R_116_51, R_116_63, R_116_66, R_116_68, R_116_77, R_116_83, C_116_60, LN_116_12, LN_116_22, CH_116_32_68]
  · rw [if_neg (fun h => c1 h.1)]
    simp (disch := first | omega | exact q_b_01 _) only [↓reduceIte, q_bk0, q_bk1, q_bk2, q_sg_b, q_b_0, q_b_n0, q_b_1, q_b_n1, q_b_T, q_b_F, q_sg_g, q_sg_sg, q_sg_xs, q_sg_id, q_gu_ne, q_gu_eq, q_g_fne, q_g_cpe, q_w_f, q_v_f, q_u_f, q_fn_f, q_cp_f, q_sg_pg, q_sg_hc, q_lt_t, q_lt_f, q_le_t, q_le_f, q_eq_t, q_eq_f, ne_eq, eq_self, Bool.false_eq_true, Bool.true_eq_false, not_true_eq_false, not_false_eq_true, true_and, and_true, false_and, and_false, true_or, or_true, false_or, or_false, if_true, if_false, Int.reduceAdd, Int.reduceMul, Int.reduceSub, Int.reduceNeg, R_116_0, R_116_15, R_116_18, R_116_25, R_116_28, R_116_35, R_116_40, R_116_51, R_116_63, R_116_66, R_116_68, R_116_77, R_116_83, C_116_60, LN_116_12, LN_116_22, CH_116_32_68]
theorem sm_15 {b : Int} (b0 : 0 ≤ b) (b1 : b + 4 ≤ 400) (hT : ∀ j, b ≤ j → j < b + 4 → q_g s 3 j = T j) : EV (d + 8) 117 0 [.ref 2, .int (q_I b), .int (q_I 69), .int (q_I 4), .null] [] (q_h L xs s O c) = some (.inl (some (.int (q_I (q_b (eqw T b [114, 111, 119, 115] = true))))), q_h L xs (s) O c) := by
  have t0 : q_g s 3 (b + 0) = T b := by
    rw [hT (b + 0) (by omega) (by omega)]
    rw [Int.add_zero]
  have t1 : q_g s 3 (b + 1) = T (b + 1) := by
    rw [hT (b + 1) (by omega) (by omega)]
  have t2 : q_g s 3 (b + 2) = T (b + 1 + 1) := by
    rw [hT (b + 2) (by omega) (by omega)]
    rw [show b + 1 + 1 = b + 2 by omega]
  have t3 : q_g s 3 (b + 3) = T (b + 1 + 1 + 1) := by
    rw [hT (b + 3) (by omega) (by omega)]
    rw [show b + 1 + 1 + 1 = b + 3 by omega]
  have r0 := q_g_rg s 3 (b + 0)
  rw [t0] at r0
  have r1 := q_g_rg s 3 (b + 1)
  rw [t1] at r1
  have r2 := q_g_rg s 3 (b + 2)
  rw [t2] at r2
  have r3 := q_g_rg s 3 (b + 3)
  rw [t3] at r3
  by_cases c0 : T b = 114
  · skip
    by_cases c1 : T (b + 1) = 111
    · skip
      by_cases c2 : T (b + 1 + 1) = 119
      · skip
        by_cases c3 : T (b + 1 + 1 + 1) = 115
        · simp (disch := first | omega | exact q_b_01 _) only [↓reduceIte, q_bk0, q_bk1, q_bk2, q_sg_b, q_b_0, q_b_n0, q_b_1, q_b_n1, q_b_T, q_b_F, q_sg_g, q_sg_sg, q_sg_xs, q_sg_id, q_gu_ne, q_gu_eq, q_g_fne, q_g_cpe, q_w_f, q_v_f, q_u_f, q_fn_f, q_cp_f, q_sg_pg, q_sg_hc, q_lt_t, q_lt_f, q_le_t, q_le_f, q_eq_t, q_eq_f, ne_eq, eq_self, Bool.false_eq_true, Bool.true_eq_false, not_true_eq_false, not_false_eq_true, true_and, and_true, false_and, and_false, true_or, or_true, false_or, or_false, if_true, if_false, Int.reduceAdd, Int.reduceMul, Int.reduceSub, Int.reduceNeg, t0, t1, t2, t3, c0, c1, c2, c3, eqw, decide_true, Bool.and_self, Bool.and_true, Bool.true_and, R_117_0, R_117_3, R_117_9, R_117_18, R_117_27, R_117_30, R_117_32, R_117_38, CH_117_24_69, CH_117_24_70, CH_117_24_71, CH_117_24_72]
        · simp (disch := first | omega | exact q_b_01 _) only [↓reduceIte, q_bk0, q_bk1, q_bk2, q_sg_b, q_b_0, q_b_n0, q_b_1, q_b_n1, q_b_T, q_b_F, q_sg_g, q_sg_sg, q_sg_xs, q_sg_id, q_gu_ne, q_gu_eq, q_g_fne, q_g_cpe, q_w_f, q_v_f, q_u_f, q_fn_f, q_cp_f, q_sg_pg, q_sg_hc, q_lt_t, q_lt_f, q_le_t, q_le_f, q_eq_t, q_eq_f, ne_eq, eq_self, Bool.false_eq_true, Bool.true_eq_false, not_true_eq_false, not_false_eq_true, true_and, and_true, false_and, and_false, true_or, or_true, false_or, or_false, if_true, if_false, Int.reduceAdd, Int.reduceMul, Int.reduceSub, Int.reduceNeg, t0, t1, t2, t3, c0, c1, c2, c3, eqw, decide_true, decide_false, Bool.false_and, Bool.and_false, Bool.and_true, Bool.true_and, R_117_0, R_117_3, R_117_9, R_117_18, R_117_27, R_117_30, R_117_32, R_117_38, CH_117_24_69, CH_117_24_70, CH_117_24_71, CH_117_24_72]
      · simp (disch := first | omega | exact q_b_01 _) only [↓reduceIte, q_bk0, q_bk1, q_bk2, q_sg_b, q_b_0, q_b_n0, q_b_1, q_b_n1, q_b_T, q_b_F, q_sg_g, q_sg_sg, q_sg_xs, q_sg_id, q_gu_ne, q_gu_eq, q_g_fne, q_g_cpe, q_w_f, q_v_f, q_u_f, q_fn_f, q_cp_f, q_sg_pg, q_sg_hc, q_lt_t, q_lt_f, q_le_t, q_le_f, q_eq_t, q_eq_f, ne_eq, eq_self, Bool.false_eq_true, Bool.true_eq_false, not_true_eq_false, not_false_eq_true, true_and, and_true, false_and, and_false, true_or, or_true, false_or, or_false, if_true, if_false, Int.reduceAdd, Int.reduceMul, Int.reduceSub, Int.reduceNeg, t0, t1, t2, c0, c1, c2, eqw, decide_true, decide_false, Bool.false_and, Bool.and_false, Bool.and_true, Bool.true_and, R_117_0, R_117_3, R_117_9, R_117_18, R_117_27, R_117_30, R_117_32, R_117_38, CH_117_24_69, CH_117_24_70, CH_117_24_71]
    · simp (disch := first | omega | exact q_b_01 _) only [↓reduceIte, q_bk0, q_bk1, q_bk2, q_sg_b, q_b_0, q_b_n0, q_b_1, q_b_n1, q_b_T, q_b_F, q_sg_g, q_sg_sg, q_sg_xs, q_sg_id, q_gu_ne, q_gu_eq, q_g_fne, q_g_cpe, q_w_f, q_v_f, q_u_f, q_fn_f, q_cp_f, q_sg_pg, q_sg_hc, q_lt_t, q_lt_f, q_le_t, q_le_f, q_eq_t, q_eq_f, ne_eq, eq_self, Bool.false_eq_true, Bool.true_eq_false, not_true_eq_false, not_false_eq_true, true_and, and_true, false_and, and_false, true_or, or_true, false_or, or_false, if_true, if_false, Int.reduceAdd, Int.reduceMul, Int.reduceSub, Int.reduceNeg, t0, t1, c0, c1, eqw, decide_true, decide_false, Bool.false_and, Bool.and_false, Bool.and_true, Bool.true_and, R_117_0, R_117_3, R_117_9, R_117_18, R_117_27, R_117_30, R_117_32, R_117_38, CH_117_24_69, CH_117_24_70]
  · simp (disch := first | omega | exact q_b_01 _) only [↓reduceIte, q_bk0, q_bk1, q_bk2, q_sg_b, q_b_0, q_b_n0, q_b_1, q_b_n1, q_b_T, q_b_F, q_sg_g, q_sg_sg, q_sg_xs, q_sg_id, q_gu_ne, q_gu_eq, q_g_fne, q_g_cpe, q_w_f, q_v_f, q_u_f, q_fn_f, q_cp_f, q_sg_pg, q_sg_hc, q_lt_t, q_lt_f, q_le_t, q_le_f, q_eq_t, q_eq_f, ne_eq, eq_self, Bool.false_eq_true, Bool.true_eq_false, not_true_eq_false, not_false_eq_true, true_and, and_true, false_and, and_false, true_or, or_true, false_or, or_false, if_true, if_false, Int.reduceAdd, Int.reduceMul, Int.reduceSub, Int.reduceNeg, t0, c0, eqw, decide_true, decide_false, Bool.false_and, Bool.and_false, Bool.and_true, Bool.true_and, R_117_0, R_117_3, R_117_9, R_117_18, R_117_27, R_117_30, R_117_32, R_117_38, CH_117_24_69]
theorem ws_15 {b e : Int} (b0 : 0 ≤ b) (be : b < e) (e1 : e ≤ 400) (hT : ∀ j, b ≤ j → j < e → q_g s 3 j = T j) : EV (d + 9) 116 8 [.ref 2, .int (q_I (b)), .int (q_I (e)), .int (q_I (15)), .int (q_I (69)), .int (q_I (69))] [] (q_h L xs s O c) = if e - b = 4 ∧ eqw T b [114, 111, 119, 115] = true then some (.inl (some (.int (q_I (15)))), q_h L xs (s) O c) else EV (d + 9) 116 8 [.ref 2, .int (q_I (b)), .int (q_I (e)), .int (q_I (16)), .int (q_I (74)), .int (q_I (74))] [] (q_h L xs s O c) := by
  rw [R_116_8]
  simp (disch := first | omega | exact q_b_01 _) only [↓reduceIte, q_bk0, q_bk1, q_bk2, q_sg_b, q_b_0, q_b_n0, q_b_1, q_b_n1, q_b_T, q_b_F, q_sg_g, q_sg_sg, q_sg_xs, q_sg_id, q_gu_ne, q_gu_eq, q_g_fne, q_g_cpe, q_w_f, q_v_f, q_u_f, q_fn_f, q_cp_f, q_sg_pg, q_sg_hc, q_lt_t, q_lt_f, q_le_t, q_le_f, q_eq_t, q_eq_f, ne_eq, eq_self, Bool.false_eq_true, Bool.true_eq_false, not_true_eq_false, not_false_eq_true, true_and, and_true, false_and, and_false, true_or, or_true, false_or, or_false, if_true, if_false, Int.reduceAdd, Int.reduceMul, Int.reduceSub, Int.reduceNeg, R_116_0, R_116_15, R_116_18, R_116_25, R_116_28, R_116_35, R_116_40, R_116_51, R_116_63, R_116_66, R_116_68, R_116_77, R_116_83, C_116_60, LN_116_12, LN_116_22, CH_116_32_69]
  rw [R_116_8]
  simp (disch := first | omega | exact q_b_01 _) only [↓reduceIte, q_bk0, q_bk1, q_bk2, q_sg_b, q_b_0, q_b_n0, q_b_1, q_b_n1, q_b_T, q_b_F, q_sg_g, q_sg_sg, q_sg_xs, q_sg_id, q_gu_ne, q_gu_eq, q_g_fne, q_g_cpe, q_w_f, q_v_f, q_u_f, q_fn_f, q_cp_f, q_sg_pg, q_sg_hc, q_lt_t, q_lt_f, q_le_t, q_le_f, q_eq_t, q_eq_f, ne_eq, eq_self, Bool.false_eq_true, Bool.true_eq_false, not_true_eq_false, not_false_eq_true, true_and, and_true, false_and, and_false, true_or, or_true, false_or, or_false, if_true, if_false, Int.reduceAdd, Int.reduceMul, Int.reduceSub, Int.reduceNeg, R_116_0, R_116_15, R_116_18, R_116_25, R_116_28, R_116_35, R_116_40, R_116_51, R_116_63, R_116_66, R_116_68, R_116_77, R_116_83, C_116_60, LN_116_12, LN_116_22, CH_116_32_70]
  rw [R_116_8]
  simp (disch := first | omega | exact q_b_01 _) only [↓reduceIte, q_bk0, q_bk1, q_bk2, q_sg_b, q_b_0, q_b_n0, q_b_1, q_b_n1, q_b_T, q_b_F, q_sg_g, q_sg_sg, q_sg_xs, q_sg_id, q_gu_ne, q_gu_eq, q_g_fne, q_g_cpe, q_w_f, q_v_f, q_u_f, q_fn_f, q_cp_f, q_sg_pg, q_sg_hc, q_lt_t, q_lt_f, q_le_t, q_le_f, q_eq_t, q_eq_f, ne_eq, eq_self, Bool.false_eq_true, Bool.true_eq_false, not_true_eq_false, not_false_eq_true, true_and, and_true, false_and, and_false, true_or, or_true, false_or, or_false, if_true, if_false, Int.reduceAdd, Int.reduceMul, Int.reduceSub, Int.reduceNeg, R_116_0, R_116_15, R_116_18, R_116_25, R_116_28, R_116_35, R_116_40, R_116_51, R_116_63, R_116_66, R_116_68, R_116_77, R_116_83, C_116_60, LN_116_12, LN_116_22, CH_116_32_71]
  rw [R_116_8]
  simp (disch := first | omega | exact q_b_01 _) only [↓reduceIte, q_bk0, q_bk1, q_bk2, q_sg_b, q_b_0, q_b_n0, q_b_1, q_b_n1, q_b_T, q_b_F, q_sg_g, q_sg_sg, q_sg_xs, q_sg_id, q_gu_ne, q_gu_eq, q_g_fne, q_g_cpe, q_w_f, q_v_f, q_u_f, q_fn_f, q_cp_f, q_sg_pg, q_sg_hc, q_lt_t, q_lt_f, q_le_t, q_le_f, q_eq_t, q_eq_f, ne_eq, eq_self, Bool.false_eq_true, Bool.true_eq_false, not_true_eq_false, not_false_eq_true, true_and, and_true, false_and, and_false, true_or, or_true, false_or, or_false, if_true, if_false, Int.reduceAdd, Int.reduceMul, Int.reduceSub, Int.reduceNeg, R_116_0, R_116_15, R_116_18, R_116_25, R_116_28, R_116_35, R_116_40, R_116_51, R_116_63, R_116_66, R_116_68, R_116_77, R_116_83, C_116_60, LN_116_12, LN_116_22, CH_116_32_72]
  rw [R_116_8]
  by_cases c1 : e - b = 4
  · have sm := sm_15 (d := d) (L := L) (xs := xs) (s := s) (O := O) (c := c) (T := T) b0 (by omega) (fun j h1 h2 => hT j h1 (by omega))
    by_cases c2 : eqw T b [114, 111, 119, 115] = true
    · rw [if_pos ⟨c1, c2⟩]
      rw [q_bt c2] at sm
      simp (disch := first | omega | exact q_b_01 _) only [↓reduceIte, q_bk0, q_bk1, q_bk2, q_sg_b, q_b_0, q_b_n0, q_b_1, q_b_n1, q_b_T, q_b_F, q_sg_g, q_sg_sg, q_sg_xs, q_sg_id, q_gu_ne, q_gu_eq, q_g_fne, q_g_cpe, q_w_f, q_v_f, q_u_f, q_fn_f, q_cp_f, q_sg_pg, q_sg_hc, q_lt_t, q_lt_f, q_le_t, q_le_f, q_eq_t, q_eq_f, ne_eq, eq_self, Bool.false_eq_true, Bool.true_eq_false, not_true_eq_false, not_false_eq_true, true_and, and_true, false_and, and_false, true_or, or_true, false_or, or_false, if_true, if_false, Int.reduceAdd, Int.reduceMul, Int.reduceSub, Int.reduceNeg, sm, R_116_0, R_116_15, R_116_18, R_116_25, R_116_28, R_116_35, R_116_40, R_116_51, R_116_63, R_116_66, R_116_68, R_116_77, R_116_83, C_116_60, LN_116_12, LN_116_22, CH_116_32_73]
    · rw [if_neg (fun h => c2 h.2)]
      rw [q_bf c2] at sm
      simp (disch := first | omega | exact q_b_01 _) only [↓reduceIte, q_bk0, q_bk1, q_bk2, q_sg_b, q_b_0, q_b_n0, q_b_1, q_b_n1, q_b_T, q_b_F, q_sg_g, q_sg_sg, q_sg_xs, q_sg_id, q_gu_ne, q_gu_eq, q_g_fne, q_g_cpe, q_w_f, q_v_f, q_u_f, q_fn_f, q_cp_f, q_sg_pg, q_sg_hc, q_lt_t, q_lt_f, q_le_t, q_le_f, q_eq_t, q_eq_f, ne_eq, eq_self, Bool.false_eq_true, Bool.true_eq_false, not_true_eq_false, not_false_eq_true, true_and, and_true, false_and, and_false, true_or, or_true, false_or, or_false, if_true, if_false, Int.reduceAdd, Int.reduceMul, Int.reduceSub, Int.reduceNeg, sm, R_116_0, R_116_15, R_116_18, R_116_25, R_116_28, R_116_35, R_116_40, R_116_51, R_116_63, R_116_66, R_116_68, R_116_77, R_116_83, C_116_60, LN_116_12, LN_116_22, CH_116_32_73]
  · rw [if_neg (fun h => c1 h.1)]
    simp (disch := first | omega | exact q_b_01 _) only [↓reduceIte, q_bk0, q_bk1, q_bk2, q_sg_b, q_b_0, q_b_n0, q_b_1, q_b_n1, q_b_T, q_b_F, q_sg_g, q_sg_sg, q_sg_xs, q_sg_id, q_gu_ne, q_gu_eq, q_g_fne, q_g_cpe, q_w_f, q_v_f, q_u_f, q_fn_f, q_cp_f, q_sg_pg, q_sg_hc, q_lt_t, q_lt_f, q_le_t, q_le_f, q_eq_t, q_eq_f, ne_eq, eq_self, Bool.false_eq_true, Bool.true_eq_false, not_true_eq_false, not_false_eq_true, true_and, and_true, false_and, and_false, true_or, or_true, false_or, or_false, if_true, if_false, Int.reduceAdd, Int.reduceMul, Int.reduceSub, Int.reduceNeg, R_116_0, R_116_15, R_116_18, R_116_25, R_116_28, R_116_35, R_116_40, R_116_51, R_116_63, R_116_66, R_116_68, R_116_77, R_116_83, C_116_60, LN_116_12, LN_116_22, CH_116_32_73]
theorem sm_16 {b : Int} (b0 : 0 ≤ b) (b1 : b + 7 ≤ 400) (hT : ∀ j, b ≤ j → j < b + 7 → q_g s 3 j = T j) : EV (d + 8) 117 0 [.ref 2, .int (q_I b), .int (q_I 74), .int (q_I 7), .null] [] (q_h L xs s O c) = some (.inl (some (.int (q_I (q_b (eqw T b [118, 101, 114, 115, 105, 111, 110] = true))))), q_h L xs (s) O c) := by
  have t0 : q_g s 3 (b + 0) = T b := by
    rw [hT (b + 0) (by omega) (by omega)]
    rw [Int.add_zero]
  have t1 : q_g s 3 (b + 1) = T (b + 1) := by
    rw [hT (b + 1) (by omega) (by omega)]
  have t2 : q_g s 3 (b + 2) = T (b + 1 + 1) := by
    rw [hT (b + 2) (by omega) (by omega)]
    rw [show b + 1 + 1 = b + 2 by omega]
  have t3 : q_g s 3 (b + 3) = T (b + 1 + 1 + 1) := by
    rw [hT (b + 3) (by omega) (by omega)]
    rw [show b + 1 + 1 + 1 = b + 3 by omega]
  have t4 : q_g s 3 (b + 4) = T (b + 1 + 1 + 1 + 1) := by
    rw [hT (b + 4) (by omega) (by omega)]
    rw [show b + 1 + 1 + 1 + 1 = b + 4 by omega]
  have t5 : q_g s 3 (b + 5) = T (b + 1 + 1 + 1 + 1 + 1) := by
    rw [hT (b + 5) (by omega) (by omega)]
    rw [show b + 1 + 1 + 1 + 1 + 1 = b + 5 by omega]
  have t6 : q_g s 3 (b + 6) = T (b + 1 + 1 + 1 + 1 + 1 + 1) := by
    rw [hT (b + 6) (by omega) (by omega)]
    rw [show b + 1 + 1 + 1 + 1 + 1 + 1 = b + 6 by omega]
  have r0 := q_g_rg s 3 (b + 0)
  rw [t0] at r0
  have r1 := q_g_rg s 3 (b + 1)
  rw [t1] at r1
  have r2 := q_g_rg s 3 (b + 2)
  rw [t2] at r2
  have r3 := q_g_rg s 3 (b + 3)
  rw [t3] at r3
  have r4 := q_g_rg s 3 (b + 4)
  rw [t4] at r4
  have r5 := q_g_rg s 3 (b + 5)
  rw [t5] at r5
  have r6 := q_g_rg s 3 (b + 6)
  rw [t6] at r6
  by_cases c0 : T b = 118
  · skip
    by_cases c1 : T (b + 1) = 101
    · skip
      by_cases c2 : T (b + 1 + 1) = 114
      · skip
        by_cases c3 : T (b + 1 + 1 + 1) = 115
        · skip
          by_cases c4 : T (b + 1 + 1 + 1 + 1) = 105
          · skip
            by_cases c5 : T (b + 1 + 1 + 1 + 1 + 1) = 111
            · skip
              by_cases c6 : T (b + 1 + 1 + 1 + 1 + 1 + 1) = 110
              · simp (disch := first | omega | exact q_b_01 _) only [↓reduceIte, q_bk0, q_bk1, q_bk2, q_sg_b, q_b_0, q_b_n0, q_b_1, q_b_n1, q_b_T, q_b_F, q_sg_g, q_sg_sg, q_sg_xs, q_sg_id, q_gu_ne, q_gu_eq, q_g_fne, q_g_cpe, q_w_f, q_v_f, q_u_f, q_fn_f, q_cp_f, q_sg_pg, q_sg_hc, q_lt_t, q_lt_f, q_le_t, q_le_f, q_eq_t, q_eq_f, ne_eq, eq_self, Bool.false_eq_true, Bool.true_eq_false, not_true_eq_false, not_false_eq_true, true_and, and_true, false_and, and_false, true_or, or_true, false_or, or_false, if_true, if_false, Int.reduceAdd, Int.reduceMul, Int.reduceSub, Int.reduceNeg, t0, t1, t2, t3, t4, t5, t6, c0, c1, c2, c3, c4, c5, c6, eqw, decide_true, Bool.and_self, Bool.and_true, Bool.true_and, R_117_0, R_117_3, R_117_9, R_117_18, R_117_27, R_117_30, R_117_32, R_117_38, CH_117_24_74, CH_117_24_75, CH_117_24_76, CH_117_24_77, CH_117_24_78, CH_117_24_79, CH_117_24_80]
              · simp (disch := first | omega | exact q_b_01 _) only [↓reduceIte, q_bk0, q_bk1, q_bk2, q_sg_b, q_b_0, q_b_n0, q_b_1, q_b_n1, q_b_T, q_b_F, q_sg_g, q_sg_sg, q_sg_xs, q_sg_id, q_gu_ne, q_gu_eq, q_g_fne, q_g_cpe, q_w_f, q_v_f, q_u_f, q_fn_f, q_cp_f, q_sg_pg, q_sg_hc, q_lt_t, q_lt_f, q_le_t, q_le_f, q_eq_t, q_eq_f, ne_eq, eq_self, Bool.false_eq_true, Bool.true_eq_false, not_true_eq_false, not_false_eq_true, true_and, and_true, false_and, and_false, true_or, or_true, false_or, or_false, if_true, if_false, Int.reduceAdd, Int.reduceMul, Int.reduceSub, Int.reduceNeg, t0, t1, t2, t3, t4, t5, t6, c0, c1, c2, c3, c4, c5, c6, eqw, decide_true, decide_false, Bool.false_and, Bool.and_false, Bool.and_true, Bool.true_and, R_117_0, R_117_3, R_117_9, R_117_18, R_117_27, R_117_30, R_117_32, R_117_38, CH_117_24_74, CH_117_24_75, CH_117_24_76, CH_117_24_77, CH_117_24_78, CH_117_24_79, CH_117_24_80]
            · simp (disch := first | omega | exact q_b_01 _) only [↓reduceIte, q_bk0, q_bk1, q_bk2, q_sg_b, q_b_0, q_b_n0, q_b_1, q_b_n1, q_b_T, q_b_F, q_sg_g, q_sg_sg, q_sg_xs, q_sg_id, q_gu_ne, q_gu_eq, q_g_fne, q_g_cpe, q_w_f, q_v_f, q_u_f, q_fn_f, q_cp_f, q_sg_pg, q_sg_hc, q_lt_t, q_lt_f, q_le_t, q_le_f, q_eq_t, q_eq_f, ne_eq, eq_self, Bool.false_eq_true, Bool.true_eq_false, not_true_eq_false, not_false_eq_true, true_and, and_true, false_and, and_false, true_or, or_true, false_or, or_false, if_true, if_false, Int.reduceAdd, Int.reduceMul, Int.reduceSub, Int.reduceNeg, t0, t1, t2, t3, t4, t5, c0, c1, c2, c3, c4, c5, eqw, decide_true, decide_false, Bool.false_and, Bool.and_false, Bool.and_true, Bool.true_and, R_117_0, R_117_3, R_117_9, R_117_18, R_117_27, R_117_30, R_117_32, R_117_38, CH_117_24_74, CH_117_24_75, CH_117_24_76, CH_117_24_77, CH_117_24_78, CH_117_24_79]
          · simp (disch := first | omega | exact q_b_01 _) only [↓reduceIte, q_bk0, q_bk1, q_bk2, q_sg_b, q_b_0, q_b_n0, q_b_1, q_b_n1, q_b_T, q_b_F, q_sg_g, q_sg_sg, q_sg_xs, q_sg_id, q_gu_ne, q_gu_eq, q_g_fne, q_g_cpe, q_w_f, q_v_f, q_u_f, q_fn_f, q_cp_f, q_sg_pg, q_sg_hc, q_lt_t, q_lt_f, q_le_t, q_le_f, q_eq_t, q_eq_f, ne_eq, eq_self, Bool.false_eq_true, Bool.true_eq_false, not_true_eq_false, not_false_eq_true, true_and, and_true, false_and, and_false, true_or, or_true, false_or, or_false, if_true, if_false, Int.reduceAdd, Int.reduceMul, Int.reduceSub, Int.reduceNeg, t0, t1, t2, t3, t4, c0, c1, c2, c3, c4, eqw, decide_true, decide_false, Bool.false_and, Bool.and_false, Bool.and_true, Bool.true_and, R_117_0, R_117_3, R_117_9, R_117_18, R_117_27, R_117_30, R_117_32, R_117_38, CH_117_24_74, CH_117_24_75, CH_117_24_76, CH_117_24_77, CH_117_24_78]
        · simp (disch := first | omega | exact q_b_01 _) only [↓reduceIte, q_bk0, q_bk1, q_bk2, q_sg_b, q_b_0, q_b_n0, q_b_1, q_b_n1, q_b_T, q_b_F, q_sg_g, q_sg_sg, q_sg_xs, q_sg_id, q_gu_ne, q_gu_eq, q_g_fne, q_g_cpe, q_w_f, q_v_f, q_u_f, q_fn_f, q_cp_f, q_sg_pg, q_sg_hc, q_lt_t, q_lt_f, q_le_t, q_le_f, q_eq_t, q_eq_f, ne_eq, eq_self, Bool.false_eq_true, Bool.true_eq_false, not_true_eq_false, not_false_eq_true, true_and, and_true, false_and, and_false, true_or, or_true, false_or, or_false, if_true, if_false, Int.reduceAdd, Int.reduceMul, Int.reduceSub, Int.reduceNeg, t0, t1, t2, t3, c0, c1, c2, c3, eqw, decide_true, decide_false, Bool.false_and, Bool.and_false, Bool.and_true, Bool.true_and, R_117_0, R_117_3, R_117_9, R_117_18, R_117_27, R_117_30, R_117_32, R_117_38, CH_117_24_74, CH_117_24_75, CH_117_24_76, CH_117_24_77]
      · simp (disch := first | omega | exact q_b_01 _) only [↓reduceIte, q_bk0, q_bk1, q_bk2, q_sg_b, q_b_0, q_b_n0, q_b_1, q_b_n1, q_b_T, q_b_F, q_sg_g, q_sg_sg, q_sg_xs, q_sg_id, q_gu_ne, q_gu_eq, q_g_fne, q_g_cpe, q_w_f, q_v_f, q_u_f, q_fn_f, q_cp_f, q_sg_pg, q_sg_hc, q_lt_t, q_lt_f, q_le_t, q_le_f, q_eq_t, q_eq_f, ne_eq, eq_self, Bool.false_eq_true, Bool.true_eq_false, not_true_eq_false, not_false_eq_true, true_and, and_true, false_and, and_false, true_or, or_true, false_or, or_false, if_true, if_false, Int.reduceAdd, Int.reduceMul, Int.reduceSub, Int.reduceNeg, t0, t1, t2, c0, c1, c2, eqw, decide_true, decide_false, Bool.false_and, Bool.and_false, Bool.and_true, Bool.true_and, R_117_0, R_117_3, R_117_9, R_117_18, R_117_27, R_117_30, R_117_32, R_117_38, CH_117_24_74, CH_117_24_75, CH_117_24_76]
    · simp (disch := first | omega | exact q_b_01 _) only [↓reduceIte, q_bk0, q_bk1, q_bk2, q_sg_b, q_b_0, q_b_n0, q_b_1, q_b_n1, q_b_T, q_b_F, q_sg_g, q_sg_sg, q_sg_xs, q_sg_id, q_gu_ne, q_gu_eq, q_g_fne, q_g_cpe, q_w_f, q_v_f, q_u_f, q_fn_f, q_cp_f, q_sg_pg, q_sg_hc, q_lt_t, q_lt_f, q_le_t, q_le_f, q_eq_t, q_eq_f, ne_eq, eq_self, Bool.false_eq_true, Bool.true_eq_false, not_true_eq_false, not_false_eq_true, true_and, and_true, false_and, and_false, true_or, or_true, false_or, or_false, if_true, if_false, Int.reduceAdd, Int.reduceMul, Int.reduceSub, Int.reduceNeg, t0, t1, c0, c1, eqw, decide_true, decide_false, Bool.false_and, Bool.and_false, Bool.and_true, Bool.true_and, R_117_0, R_117_3, R_117_9, R_117_18, R_117_27, R_117_30, R_117_32, R_117_38, CH_117_24_74, CH_117_24_75]
  · simp (disch := first | omega | exact q_b_01 _) only [↓reduceIte, q_bk0, q_bk1, q_bk2, q_sg_b, q_b_0, q_b_n0, q_b_1, q_b_n1, q_b_T, q_b_F, q_sg_g, q_sg_sg, q_sg_xs, q_sg_id, q_gu_ne, q_gu_eq, q_g_fne, q_g_cpe, q_w_f, q_v_f, q_u_f, q_fn_f, q_cp_f, q_sg_pg, q_sg_hc, q_lt_t, q_lt_f, q_le_t, q_le_f, q_eq_t, q_eq_f, ne_eq, eq_self, Bool.false_eq_true, Bool.true_eq_false, not_true_eq_false, not_false_eq_true, true_and, and_true, false_and, and_false, true_or, or_true, false_or, or_false, if_true, if_false, Int.reduceAdd, Int.reduceMul, Int.reduceSub, Int.reduceNeg, t0, c0, eqw, decide_true, decide_false, Bool.false_and, Bool.and_false, Bool.and_true, Bool.true_and, R_117_0, R_117_3, R_117_9, R_117_18, R_117_27, R_117_30, R_117_32, R_117_38, CH_117_24_74]
theorem ws_16 {b e : Int} (b0 : 0 ≤ b) (be : b < e) (e1 : e ≤ 400) (hT : ∀ j, b ≤ j → j < e → q_g s 3 j = T j) : EV (d + 9) 116 8 [.ref 2, .int (q_I (b)), .int (q_I (e)), .int (q_I (16)), .int (q_I (74)), .int (q_I (74))] [] (q_h L xs s O c) = if e - b = 7 ∧ eqw T b [118, 101, 114, 115, 105, 111, 110] = true then some (.inl (some (.int (q_I (16)))), q_h L xs (s) O c) else EV (d + 9) 116 8 [.ref 2, .int (q_I (b)), .int (q_I (e)), .int (q_I (17)), .int (q_I (82)), .int (q_I (82))] [] (q_h L xs s O c) := by
  rw [R_116_8]
  simp (disch := first | omega | exact q_b_01 _) only [↓reduceIte, q_bk0, q_bk1, q_bk2, q_sg_b, q_b_0, q_b_n0, q_b_1, q_b_n1, q_b_T, q_b_F, q_sg_g, q_sg_sg, q_sg_xs, q_sg_id, q_gu_ne, q_gu_eq, q_g_fne, q_g_cpe, q_w_f, q_v_f, q_u_f, q_fn_f, q_cp_f, q_sg_pg, q_sg_hc, q_lt_t, q_lt_f, q_le_t, q_le_f, q_eq_t, q_eq_f, ne_eq, eq_self, Bool.false_eq_true, Bool.true_eq_false, not_true_eq_false, not_false_eq_true, true_and, and_true, false_and, and_false, true_or, or_true, false_or, or_false, if_true, if_false, Int.reduceAdd, Int.reduceMul, Int.reduceSub, Int.reduceNeg, R_116_0, R_116_15, R_116_18, R_116_25, R_116_28, R_116_35, R_116_40, R_116_51, R_116_63, R_116_66, R_116_68, R_116_77, R_116_83, C_116_60, LN_116_12, LN_116_22, CH_116_32_74]
  rw [R_116_8]
  simp (disch := first | omega | exact q_b_01 _) only [↓reduceIte, q_bk0, q_bk1, q_bk2, q_sg_b, q_b_0, q_b_n0, q_b_1, q_b_n1, q_b_T, q_b_F, q_sg_g, q_sg_sg, q_sg_xs, q_sg_id, q_gu_ne, q_gu_eq, q_g_fne, q_g_cpe, q_w_f, q_v_f, q_u_f, q_fn_f, q_cp_f, q_sg_pg, q_sg_hc, q_lt_t, q_lt_f, q_le_t, q_le_f, q_eq_t, q_eq_f, ne_eq, eq_self, Bool.false_eq_true, Bool.true_eq_false, not_true_eq_false, not_false_eq_true, true_and, and_true, false_and, and_false, true_or, or_true, false_or, or_false, if_true, if_false, Int.reduceAdd, Int.reduceMul, Int.reduceSub, Int.reduceNeg, R_116_0, R_116_15, R_116_18, R_116_25, R_116_28, R_116_35, R_116_40, R_116_51, R_116_63, R_116_66, R_116_68, R_116_77, R_116_83, C_116_60, LN_116_12, LN_116_22, CH_116_32_75]
  rw [R_116_8]
  simp (disch := first | omega | exact q_b_01 _) only [↓reduceIte, q_bk0, q_bk1, q_bk2, q_sg_b, q_b_0, q_b_n0, q_b_1, q_b_n1, q_b_T, q_b_F, q_sg_g, q_sg_sg, q_sg_xs, q_sg_id, q_gu_ne, q_gu_eq, q_g_fne, q_g_cpe, q_w_f, q_v_f, q_u_f, q_fn_f, q_cp_f, q_sg_pg, q_sg_hc, q_lt_t, q_lt_f, q_le_t, q_le_f, q_eq_t, q_eq_f, ne_eq, eq_self, Bool.false_eq_true, Bool.true_eq_false, not_true_eq_false, not_false_eq_true, true_and, and_true, false_and, and_false, true_or, or_true, false_or, or_false, if_true, if_false, Int.reduceAdd, Int.reduceMul, Int.reduceSub, Int.reduceNeg, R_116_0, R_116_15, R_116_18, R_116_25, R_116_28, R_116_35, R_116_40, R_116_51, R_116_63, R_116_66, R_116_68, R_116_77, R_116_83, C_116_60, LN_116_12, LN_116_22, CH_116_32_76]
  rw [R_116_8]
  simp (disch := first | omega | exact q_b_01 _) only [↓reduceIte, q_bk0, q_bk1, q_bk2, q_sg_b, q_b_0, q_b_n0, q_b_1, q_b_n1, q_b_T, q_b_F, q_sg_g, q_sg_sg, q_sg_xs, q_sg_id, q_gu_ne, q_gu_eq, q_g_fne, q_g_cpe, q_w_f, q_v_f, q_u_f, q_fn_f, q_cp_f, q_sg_pg, q_sg_hc, q_lt_t, q_lt_f, q_le_t, q_le_f, q_eq_t, q_eq_f, ne_eq, eq_self, Bool.false_eq_true, Bool.true_eq_false, not_true_eq_false, not_false_eq_true, true_and, and_true, false_and, and_false, true_or, or_true, false_or, or_false, if_true, if_false, Int.reduceAdd, Int.reduceMul, Int.reduceSub, Int.reduceNeg, R_116_0, R_116_15, R_116_18, R_116_25, R_116_28, R_116_35, R_116_40, R_116_51, R_116_63, R_116_66, R_116_68, R_116_77, R_116_83, C_116_60, LN_116_12, LN_116_22, CH_116_32_77]
  rw [R_116_8]
  simp (disch := first | omega | exact q_b_01 _) only [↓reduceIte, q_bk0, q_bk1, q_bk2, q_sg_b, q_b_0, q_b_n0, q_b_1, q_b_n1, q_b_T, q_b_F, q_sg_g, q_sg_sg, q_sg_xs, q_sg_id, q_gu_ne, q_gu_eq, q_g_fne, q_g_cpe, q_w_f, q_v_f, q_u_f, q_fn_f, q_cp_f, q_sg_pg, q_sg_hc, q_lt_t, q_lt_f, q_le_t, q_le_f, q_eq_t, q_eq_f, ne_eq, eq_self, Bool.false_eq_true, Bool.true_eq_false, not_true_eq_false, not_false_eq_true, true_and, and_true, false_and, and_false, true_or, or_true, false_or, or_false, if_true, if_false, Int.reduceAdd, Int.reduceMul, Int.reduceSub, Int.reduceNeg, R_116_0, R_116_15, R_116_18, R_116_25, R_116_28, R_116_35, R_116_40, R_116_51, R_116_63, R_116_66, R_116_68, R_116_77, R_116_83, C_116_60, LN_116_12, LN_116_22, CH_116_32_78]
  rw [R_116_8]
  simp (disch := first | omega | exact q_b_01 _) only [↓reduceIte, q_bk0, q_bk1, q_bk2, q_sg_b, q_b_0, q_b_n0, q_b_1, q_b_n1, q_b_T, q_b_F, q_sg_g, q_sg_sg, q_sg_xs, q_sg_id, q_gu_ne, q_gu_eq, q_g_fne, q_g_cpe, q_w_f, q_v_f, q_u_f, q_fn_f, q_cp_f, q_sg_pg, q_sg_hc, q_lt_t, q_lt_f, q_le_t, q_le_f, q_eq_t, q_eq_f, ne_eq, eq_self, Bool.false_eq_true, Bool.true_eq_false, not_true_eq_false, not_false_eq_true, true_and, and_true, false_and, and_false, true_or, or_true, false_or, or_false, if_true, if_false, Int.reduceAdd, Int.reduceMul, Int.reduceSub, Int.reduceNeg, R_116_0, R_116_15, R_116_18, R_116_25, R_116_28, R_116_35, R_116_40, R_116_51, R_116_63, R_116_66, R_116_68, R_116_77, R_116_83, C_116_60, LN_116_12, LN_116_22, CH_116_32_79]
  rw [R_116_8]
  simp (disch := first | omega | exact q_b_01 _) only [↓reduceIte, q_bk0, q_bk1, q_bk2, q_sg_b, q_b_0, q_b_n0, q_b_1, q_b_n1, q_b_T, q_b_F, q_sg_g, q_sg_sg, q_sg_xs, q_sg_id, q_gu_ne, q_gu_eq, q_g_fne, q_g_cpe, q_w_f, q_v_f, q_u_f, q_fn_f, q_cp_f, q_sg_pg, q_sg_hc, q_lt_t, q_lt_f, q_le_t, q_le_f, q_eq_t, q_eq_f, ne_eq, eq_self, Bool.false_eq_true, Bool.true_eq_false, not_true_eq_false, not_false_eq_true, true_and, and_true, false_and, and_false, true_or, or_true, false_or, or_false, if_true, if_false, Int.reduceAdd, Int.reduceMul, Int.reduceSub, Int.reduceNeg, R_116_0, R_116_15, R_116_18, R_116_25, R_116_28, R_116_35, R_116_40, R_116_51, R_116_63, R_116_66, R_116_68, R_116_77, R_116_83, C_116_60, LN_116_12, LN_116_22, CH_116_32_80]
  rw [R_116_8]
  by_cases c1 : e - b = 7
  · have sm := sm_16 (d := d) (L := L) (xs := xs) (s := s) (O := O) (c := c) (T := T) b0 (by omega) (fun j h1 h2 => hT j h1 (by omega))
    by_cases c2 : eqw T b [118, 101, 114, 115, 105, 111, 110] = true
    · rw [if_pos ⟨c1, c2⟩]
      rw [q_bt c2] at sm
      simp (disch := first | omega | exact q_b_01 _) only [↓reduceIte, q_bk0, q_bk1, q_bk2, q_sg_b, q_b_0, q_b_n0, q_b_1, q_b_n1, q_b_T, q_b_F, q_sg_g, q_sg_sg, q_sg_xs, q_sg_id, q_gu_ne, q_gu_eq, q_g_fne, q_g_cpe, q_w_f, q_v_f, q_u_f, q_fn_f, q_cp_f, q_sg_pg, q_sg_hc, q_lt_t, q_lt_f, q_le_t, q_le_f, q_eq_t, q_eq_f, ne_eq, eq_self, Bool.false_eq_true, Bool.true_eq_false, not_true_eq_false, not_false_eq_true, true_and, and_true, false_and, and_false, true_or, or_true, false_or, or_false, if_true, if_false, Int.reduceAdd, Int.reduceMul, Int.reduceSub, Int.reduceNeg, sm, R_116_0, R_116_15, R_116_18, R_116_25, R_116_28, R_116_35, R_116_40, R_116_51, R_116_63, R_116_66, R_116_68, R_116_77, R_116_83, C_116_60, LN_116_12, LN_116_22, CH_116_32_81]
    · rw [if_neg (fun h => c2 h.2)]
      rw [q_bf c2] at sm
      simp (disch := first | omega | exact q_b_01 _) only [↓reduceIte, q_bk0, q_bk1, q_bk2, q_sg_b, q_b_0, q_b_n0, q_b_1, q_b_n1, q_b_T, q_b_F, q_sg_g, q_sg_sg, q_sg_xs, q_sg_id, q_gu_ne, q_gu_eq, q_g_fne, q_g_cpe, q_w_f, q_v_f, q_u_f, q_fn_f, q_cp_f, q_sg_pg, q_sg_hc, q_lt_t, q_lt_f, q_le_t, q_le_f, q_eq_t, q_eq_f, ne_eq, eq_self, Bool.false_eq_true, Bool.true_eq_false, not_true_eq_false, not_false_eq_true, true_and, and_true, false_and, and_false, true_or, or_true, false_or, or_false, if_true, if_false, Int.reduceAdd, Int.reduceMul, Int.reduceSub, Int.reduceNeg, sm, R_116_0, R_116_15, R_116_18, R_116_25, R_116_28, R_116_35, R_116_40, R_116_51, R_116_63, R_116_66, R_116_68, R_116_77, R_116_83, C_116_60, LN_116_12, LN_116_22, CH_116_32_81]
  · rw [if_neg (fun h => c1 h.1)]
    simp (disch := first | omega | exact q_b_01 _) only [↓reduceIte, q_bk0, q_bk1, q_bk2, q_sg_b, q_b_0, q_b_n0, q_b_1, q_b_n1, q_b_T, q_b_F, q_sg_g, q_sg_sg, q_sg_xs, q_sg_id, q_gu_ne, q_gu_eq, q_g_fne, q_g_cpe, q_w_f, q_v_f, q_u_f, q_fn_f, q_cp_f, q_sg_pg, q_sg_hc, q_lt_t, q_lt_f, q_le_t, q_le_f, q_eq_t, q_eq_f, ne_eq, eq_self, Bool.false_eq_true, Bool.true_eq_false, not_true_eq_false, not_false_eq_true, true_and, and_true, false_and, and_false, true_or, or_true, false_or, or_false, if_true, if_false, Int.reduceAdd, Int.reduceMul, Int.reduceSub, Int.reduceNeg, R_116_0, R_116_15, R_116_18, R_116_25, R_116_28, R_116_35, R_116_40, R_116_51, R_116_63, R_116_66, R_116_68, R_116_77, R_116_83, C_116_60, LN_116_12, LN_116_22, CH_116_32_81]
theorem sm_17 {b : Int} (b0 : 0 ≤ b) (b1 : b + 7 ≤ 400) (hT : ∀ j, b ≤ j → j < b + 7 → q_g s 3 j = T j) : EV (d + 8) 117 0 [.ref 2, .int (q_I b), .int (q_I 82), .int (q_I 7), .null] [] (q_h L xs s O c) = some (.inl (some (.int (q_I (q_b (eqw T b [114, 101, 97, 100, 101, 114, 115] = true))))), q_h L xs (s) O c) := by
  have t0 : q_g s 3 (b + 0) = T b := by
    rw [hT (b + 0) (by omega) (by omega)]
    rw [Int.add_zero]
  have t1 : q_g s 3 (b + 1) = T (b + 1) := by
    rw [hT (b + 1) (by omega) (by omega)]
  have t2 : q_g s 3 (b + 2) = T (b + 1 + 1) := by
    rw [hT (b + 2) (by omega) (by omega)]
    rw [show b + 1 + 1 = b + 2 by omega]
  have t3 : q_g s 3 (b + 3) = T (b + 1 + 1 + 1) := by
    rw [hT (b + 3) (by omega) (by omega)]
    rw [show b + 1 + 1 + 1 = b + 3 by omega]
  have t4 : q_g s 3 (b + 4) = T (b + 1 + 1 + 1 + 1) := by
    rw [hT (b + 4) (by omega) (by omega)]
    rw [show b + 1 + 1 + 1 + 1 = b + 4 by omega]
  have t5 : q_g s 3 (b + 5) = T (b + 1 + 1 + 1 + 1 + 1) := by
    rw [hT (b + 5) (by omega) (by omega)]
    rw [show b + 1 + 1 + 1 + 1 + 1 = b + 5 by omega]
  have t6 : q_g s 3 (b + 6) = T (b + 1 + 1 + 1 + 1 + 1 + 1) := by
    rw [hT (b + 6) (by omega) (by omega)]
    rw [show b + 1 + 1 + 1 + 1 + 1 + 1 = b + 6 by omega]
  have r0 := q_g_rg s 3 (b + 0)
  rw [t0] at r0
  have r1 := q_g_rg s 3 (b + 1)
  rw [t1] at r1
  have r2 := q_g_rg s 3 (b + 2)
  rw [t2] at r2
  have r3 := q_g_rg s 3 (b + 3)
  rw [t3] at r3
  have r4 := q_g_rg s 3 (b + 4)
  rw [t4] at r4
  have r5 := q_g_rg s 3 (b + 5)
  rw [t5] at r5
  have r6 := q_g_rg s 3 (b + 6)
  rw [t6] at r6
  by_cases c0 : T b = 114
  · skip
    by_cases c1 : T (b + 1) = 101
    · skip
      by_cases c2 : T (b + 1 + 1) = 97
      · skip
        by_cases c3 : T (b + 1 + 1 + 1) = 100
        · skip
          by_cases c4 : T (b + 1 + 1 + 1 + 1) = 101
          · skip
            by_cases c5 : T (b + 1 + 1 + 1 + 1 + 1) = 114
            · skip
              by_cases c6 : T (b + 1 + 1 + 1 + 1 + 1 + 1) = 115
              · simp (disch := first | omega | exact q_b_01 _) only [↓reduceIte, q_bk0, q_bk1, q_bk2, q_sg_b, q_b_0, q_b_n0, q_b_1, q_b_n1, q_b_T, q_b_F, q_sg_g, q_sg_sg, q_sg_xs, q_sg_id, q_gu_ne, q_gu_eq, q_g_fne, q_g_cpe, q_w_f, q_v_f, q_u_f, q_fn_f, q_cp_f, q_sg_pg, q_sg_hc, q_lt_t, q_lt_f, q_le_t, q_le_f, q_eq_t, q_eq_f, ne_eq, eq_self, Bool.false_eq_true, Bool.true_eq_false, not_true_eq_false, not_false_eq_true, true_and, and_true, false_and, and_false, true_or, or_true, false_or, or_false, if_true, if_false, Int.reduceAdd, Int.reduceMul, Int.reduceSub, Int.reduceNeg, t0, t1, t2, t3, t4, t5, t6, c0, c1, c2, c3, c4, c5, c6, eqw, decide_true, Bool.and_self, Bool.and_true, Bool.true_and, R_117_0, R_117_3, R_117_9, R_117_18, R_117_27, R_117_30, R_117_32, R_117_38, CH_117_24_82, CH_117_24_83, CH_117_24_84, CH_117_24_85, CH_117_24_86, CH_117_24_87, CH_117_24_88]
              · simp (disch := first | omega | exact q_b_01 _) only [↓reduceIte, q_bk0, q_bk1, q_bk2, q_sg_b, q_b_0, q_b_n0, q_b_1, q_b_n1, q_b_T, q_b_F, q_sg_g, q_sg_sg, q_sg_xs, q_sg_id, q_gu_ne, q_gu_eq, q_g_fne, q_g_cpe, q_w_f, q_v_f, q_u_f, q_fn_f, q_cp_f, q_sg_pg, q_sg_hc, q_lt_t, q_lt_f, q_le_t, q_le_f, q_eq_t, q_eq_f, ne_eq, eq_self, Bool.false_eq_true, Bool.true_eq_false, not_true_eq_false, not_false_eq_true, true_and, and_true, false_and, and_false, true_or, or_true, false_or, or_false, if_true, if_false, Int.reduceAdd, Int.reduceMul, Int.reduceSub, Int.reduceNeg, t0, t1, t2, t3, t4, t5, t6, c0, c1, c2, c3, c4, c5, c6, eqw, decide_true, decide_false, Bool.false_and, Bool.and_false, Bool.and_true, Bool.true_and, R_117_0, R_117_3, R_117_9, R_117_18, R_117_27, R_117_30, R_117_32, R_117_38, CH_117_24_82, CH_117_24_83, CH_117_24_84, CH_117_24_85, CH_117_24_86, CH_117_24_87, CH_117_24_88]
            · simp (disch := first | omega | exact q_b_01 _) only [↓reduceIte, q_bk0, q_bk1, q_bk2, q_sg_b, q_b_0, q_b_n0, q_b_1, q_b_n1, q_b_T, q_b_F, q_sg_g, q_sg_sg, q_sg_xs, q_sg_id, q_gu_ne, q_gu_eq, q_g_fne, q_g_cpe, q_w_f, q_v_f, q_u_f, q_fn_f, q_cp_f, q_sg_pg, q_sg_hc, q_lt_t, q_lt_f, q_le_t, q_le_f, q_eq_t, q_eq_f, ne_eq, eq_self, Bool.false_eq_true, Bool.true_eq_false, not_true_eq_false, not_false_eq_true, true_and, and_true, false_and, and_false, true_or, or_true, false_or, or_false, if_true, if_false, Int.reduceAdd, Int.reduceMul, Int.reduceSub, Int.reduceNeg, t0, t1, t2, t3, t4, t5, c0, c1, c2, c3, c4, c5, eqw, decide_true, decide_false, Bool.false_and, Bool.and_false, Bool.and_true, Bool.true_and, R_117_0, R_117_3, R_117_9, R_117_18, R_117_27, R_117_30, R_117_32, R_117_38, CH_117_24_82, CH_117_24_83, CH_117_24_84, CH_117_24_85, CH_117_24_86, CH_117_24_87]
          · simp (disch := first | omega | exact q_b_01 _) only [↓reduceIte, q_bk0, q_bk1, q_bk2, q_sg_b, q_b_0, q_b_n0, q_b_1, q_b_n1, q_b_T, q_b_F, q_sg_g, q_sg_sg, q_sg_xs, q_sg_id, q_gu_ne, q_gu_eq, q_g_fne, q_g_cpe, q_w_f, q_v_f, q_u_f, q_fn_f, q_cp_f, q_sg_pg, q_sg_hc, q_lt_t, q_lt_f, q_le_t, q_le_f, q_eq_t, q_eq_f, ne_eq, eq_self, Bool.false_eq_true, Bool.true_eq_false, not_true_eq_false, not_false_eq_true, true_and, and_true, false_and, and_false, true_or, or_true, false_or, or_false, if_true, if_false, Int.reduceAdd, Int.reduceMul, Int.reduceSub, Int.reduceNeg, t0, t1, t2, t3, t4, c0, c1, c2, c3, c4, eqw, decide_true, decide_false, Bool.false_and, Bool.and_false, Bool.and_true, Bool.true_and, R_117_0, R_117_3, R_117_9, R_117_18, R_117_27, R_117_30, R_117_32, R_117_38, CH_117_24_82, CH_117_24_83, CH_117_24_84, CH_117_24_85, CH_117_24_86]
        · simp (disch := first | omega | exact q_b_01 _) only [↓reduceIte, q_bk0, q_bk1, q_bk2, q_sg_b, q_b_0, q_b_n0, q_b_1, q_b_n1, q_b_T, q_b_F, q_sg_g, q_sg_sg, q_sg_xs, q_sg_id, q_gu_ne, q_gu_eq, q_g_fne, q_g_cpe, q_w_f, q_v_f, q_u_f, q_fn_f, q_cp_f, q_sg_pg, q_sg_hc, q_lt_t, q_lt_f, q_le_t, q_le_f, q_eq_t, q_eq_f, ne_eq, eq_self, Bool.false_eq_true, Bool.true_eq_false, not_true_eq_false, not_false_eq_true, true_and, and_true, false_and, and_false, true_or, or_true, false_or, or_false, if_true, if_false, Int.reduceAdd, Int.reduceMul, Int.reduceSub, Int.reduceNeg, t0, t1, t2, t3, c0, c1, c2, c3, eqw, decide_true, decide_false, Bool.false_and, Bool.and_false, Bool.and_true, Bool.true_and, R_117_0, R_117_3, R_117_9, R_117_18, R_117_27, R_117_30, R_117_32, R_117_38, CH_117_24_82, CH_117_24_83, CH_117_24_84, CH_117_24_85]
      · simp (disch := first | omega | exact q_b_01 _) only [↓reduceIte, q_bk0, q_bk1, q_bk2, q_sg_b, q_b_0, q_b_n0, q_b_1, q_b_n1, q_b_T, q_b_F, q_sg_g, q_sg_sg, q_sg_xs, q_sg_id, q_gu_ne, q_gu_eq, q_g_fne, q_g_cpe, q_w_f, q_v_f, q_u_f, q_fn_f, q_cp_f, q_sg_pg, q_sg_hc, q_lt_t, q_lt_f, q_le_t, q_le_f, q_eq_t, q_eq_f, ne_eq, eq_self, Bool.false_eq_true, Bool.true_eq_false, not_true_eq_false, not_false_eq_true, true_and, and_true, false_and, and_false, true_or, or_true, false_or, or_false, if_true, if_false, Int.reduceAdd, Int.reduceMul, Int.reduceSub, Int.reduceNeg, t0, t1, t2, c0, c1, c2, eqw, decide_true, decide_false, Bool.false_and, Bool.and_false, Bool.and_true, Bool.true_and, R_117_0, R_117_3, R_117_9, R_117_18, R_117_27, R_117_30, R_117_32, R_117_38, CH_117_24_82, CH_117_24_83, CH_117_24_84]
    · simp (disch := first | omega | exact q_b_01 _) only [↓reduceIte, q_bk0, q_bk1, q_bk2, q_sg_b, q_b_0, q_b_n0, q_b_1, q_b_n1, q_b_T, q_b_F, q_sg_g, q_sg_sg, q_sg_xs, q_sg_id, q_gu_ne, q_gu_eq, q_g_fne, q_g_cpe, q_w_f, q_v_f, q_u_f, q_fn_f, q_cp_f, q_sg_pg, q_sg_hc, q_lt_t, q_lt_f, q_le_t, q_le_f, q_eq_t, q_eq_f, ne_eq, eq_self, Bool.false_eq_true, Bool.true_eq_false, not_true_eq_false, not_false_eq_true, true_and, and_true, false_and, and_false, true_or, or_true, false_or, or_false, if_true, if_false, Int.reduceAdd, Int.reduceMul, Int.reduceSub, Int.reduceNeg, t0, t1, c0, c1, eqw, decide_true, decide_false, Bool.false_and, Bool.and_false, Bool.and_true, Bool.true_and, R_117_0, R_117_3, R_117_9, R_117_18, R_117_27, R_117_30, R_117_32, R_117_38, CH_117_24_82, CH_117_24_83]
  · simp (disch := first | omega | exact q_b_01 _) only [↓reduceIte, q_bk0, q_bk1, q_bk2, q_sg_b, q_b_0, q_b_n0, q_b_1, q_b_n1, q_b_T, q_b_F, q_sg_g, q_sg_sg, q_sg_xs, q_sg_id, q_gu_ne, q_gu_eq, q_g_fne, q_g_cpe, q_w_f, q_v_f, q_u_f, q_fn_f, q_cp_f, q_sg_pg, q_sg_hc, q_lt_t, q_lt_f, q_le_t, q_le_f, q_eq_t, q_eq_f, ne_eq, eq_self, Bool.false_eq_true, Bool.true_eq_false, not_true_eq_false, not_false_eq_true, true_and, and_true, false_and, and_false, true_or, or_true, false_or, or_false, if_true, if_false, Int.reduceAdd, Int.reduceMul, Int.reduceSub, Int.reduceNeg, t0, c0, eqw, decide_true, decide_false, Bool.false_and, Bool.and_false, Bool.and_true, Bool.true_and, R_117_0, R_117_3, R_117_9, R_117_18, R_117_27, R_117_30, R_117_32, R_117_38, CH_117_24_82]
theorem ws_17 {b e : Int} (b0 : 0 ≤ b) (be : b < e) (e1 : e ≤ 400) (hT : ∀ j, b ≤ j → j < e → q_g s 3 j = T j) : EV (d + 9) 116 8 [.ref 2, .int (q_I (b)), .int (q_I (e)), .int (q_I (17)), .int (q_I (82)), .int (q_I (82))] [] (q_h L xs s O c) = if e - b = 7 ∧ eqw T b [114, 101, 97, 100, 101, 114, 115] = true then some (.inl (some (.int (q_I (17)))), q_h L xs (s) O c) else EV (d + 9) 116 8 [.ref 2, .int (q_I (b)), .int (q_I (e)), .int (q_I (18)), .int (q_I (90)), .int (q_I (90))] [] (q_h L xs s O c) := by
  rw [R_116_8]
  simp (disch := first | omega | exact q_b_01 _) only [↓reduceIte, q_bk0, q_bk1, q_bk2, q_sg_b, q_b_0, q_b_n0, q_b_1, q_b_n1, q_b_T, q_b_F, q_sg_g, q_sg_sg, q_sg_xs, q_sg_id, q_gu_ne, q_gu_eq, q_g_fne, q_g_cpe, q_w_f, q_v_f, q_u_f, q_fn_f, q_cp_f, q_sg_pg, q_sg_hc, q_lt_t, q_lt_f, q_le_t, q_le_f, q_eq_t, q_eq_f, ne_eq, eq_self, Bool.false_eq_true, Bool.true_eq_false, not_true_eq_false, not_false_eq_true, true_and, and_true, false_and, and_false, true_or, or_true, false_or, or_false, if_true, if_false, Int.reduceAdd, Int.reduceMul, Int.reduceSub, Int.reduceNeg, R_116_0, R_116_15, R_116_18, R_116_25, R_116_28, R_116_35, R_116_40, R_116_51, R_116_63, R_116_66, R_116_68, R_116_77, R_116_83, C_116_60, LN_116_12, LN_116_22, CH_116_32_82]
  rw [R_116_8]
  simp (disch := first | omega | exact q_b_01 _) only [↓reduceIte, q_bk0, q_bk1, q_bk2, q_sg_b, q_b_0, q_b_n0, q_b_1, q_b_n1, q_b_T, q_b_F, q_sg_g, q_sg_sg, q_sg_xs, q_sg_id, q_gu_ne, q_gu_eq, q_g_fne, q_g_cpe, q_w_f, q_v_f, q_u_f, q_fn_f, q_cp_f, q_sg_pg, q_sg_hc, q_lt_t, q_lt_f, q_le_t, q_le_f, q_eq_t, q_eq_f, ne_eq, eq_self, Bool.false_eq_true, Bool.true_eq_false, not_true_eq_false, not_false_eq_true, true_and, and_true, false_and, and_false, true_or, or_true, false_or, or_false, if_true, if_false, Int.reduceAdd, Int.reduceMul, Int.reduceSub, Int.reduceNeg, R_116_0, R_116_15, R_116_18, R_116_25, R_116_28, R_116_35, R_116_40, R_116_51, R_116_63, R_116_66, R_116_68, R_116_77, R_116_83, C_116_60, LN_116_12, LN_116_22, CH_116_32_83]
  rw [R_116_8]
  simp (disch := first | omega | exact q_b_01 _) only [↓reduceIte, q_bk0, q_bk1, q_bk2, q_sg_b, q_b_0, q_b_n0, q_b_1, q_b_n1, q_b_T, q_b_F, q_sg_g, q_sg_sg, q_sg_xs, q_sg_id, q_gu_ne, q_gu_eq, q_g_fne, q_g_cpe, q_w_f, q_v_f, q_u_f, q_fn_f, q_cp_f, q_sg_pg, q_sg_hc, q_lt_t, q_lt_f, q_le_t, q_le_f, q_eq_t, q_eq_f, ne_eq, eq_self, Bool.false_eq_true, Bool.true_eq_false, not_true_eq_false, not_false_eq_true, true_and, and_true, false_and, and_false, true_or, or_true, false_or, or_false, if_true, if_false, Int.reduceAdd, Int.reduceMul, Int.reduceSub, Int.reduceNeg, R_116_0, R_116_15, R_116_18, R_116_25, R_116_28, R_116_35, R_116_40, R_116_51, R_116_63, R_116_66, R_116_68, R_116_77, R_116_83, C_116_60, LN_116_12, LN_116_22, CH_116_32_84]
  rw [R_116_8]
  simp (disch := first | omega | exact q_b_01 _) only [↓reduceIte, q_bk0, q_bk1, q_bk2, q_sg_b, q_b_0, q_b_n0, q_b_1, q_b_n1, q_b_T, q_b_F, q_sg_g, q_sg_sg, q_sg_xs, q_sg_id, q_gu_ne, q_gu_eq, q_g_fne, q_g_cpe, q_w_f, q_v_f, q_u_f, q_fn_f, q_cp_f, q_sg_pg, q_sg_hc, q_lt_t, q_lt_f, q_le_t, q_le_f, q_eq_t, q_eq_f, ne_eq, eq_self, Bool.false_eq_true, Bool.true_eq_false, not_true_eq_false, not_false_eq_true, true_and, and_true, false_and, and_false, true_or, or_true, false_or, or_false, if_true, if_false, Int.reduceAdd, Int.reduceMul, Int.reduceSub, Int.reduceNeg, R_116_0, R_116_15, R_116_18, R_116_25, R_116_28, R_116_35, R_116_40, R_116_51, R_116_63, R_116_66, R_116_68, R_116_77, R_116_83, C_116_60, LN_116_12, LN_116_22, CH_116_32_85]
  rw [R_116_8]
  simp (disch := first | omega | exact q_b_01 _) only [↓reduceIte, q_bk0, q_bk1, q_bk2, q_sg_b, q_b_0, q_b_n0, q_b_1, q_b_n1, q_b_T, q_b_F, q_sg_g, q_sg_sg, q_sg_xs, q_sg_id, q_gu_ne, q_gu_eq, q_g_fne, q_g_cpe, q_w_f, q_v_f, q_u_f, q_fn_f, q_cp_f, q_sg_pg, q_sg_hc, q_lt_t, q_lt_f, q_le_t, q_le_f, q_eq_t, q_eq_f, ne_eq, eq_self, Bool.false_eq_true, Bool.true_eq_false, not_true_eq_false, not_false_eq_true, true_and, and_true, false_and, and_false, true_or, or_true, false_or, or_false, if_true, if_false, Int.reduceAdd, Int.reduceMul, Int.reduceSub, Int.reduceNeg, R_116_0, R_116_15, R_116_18, R_116_25, R_116_28, R_116_35, R_116_40, R_116_51, R_116_63, R_116_66, R_116_68, R_116_77, R_116_83, C_116_60, LN_116_12, LN_116_22, CH_116_32_86]
  rw [R_116_8]
  simp (disch := first | omega | exact q_b_01 _) only [↓reduceIte, q_bk0, q_bk1, q_bk2, q_sg_b, q_b_0, q_b_n0, q_b_1, q_b_n1, q_b_T, q_b_F, q_sg_g, q_sg_sg, q_sg_xs, q_sg_id, q_gu_ne, q_gu_eq, q_g_fne, q_g_cpe, q_w_f, q_v_f, q_u_f, q_fn_f, q_cp_f, q_sg_pg, q_sg_hc, q_lt_t, q_lt_f, q_le_t, q_le_f, q_eq_t, q_eq_f, ne_eq, eq_self, Bool.false_eq_true, Bool.true_eq_false, not_true_eq_false, not_false_eq_true, true_and, and_true, false_and, and_false, true_or, or_true, false_or, or_false, if_true, if_false, Int.reduceAdd, Int.reduceMul, Int.reduceSub, Int.reduceNeg, R_116_0, R_116_15, R_116_18, R_116_25, R_116_28, R_116_35, R_116_40, R_116_51, R_116_63, R_116_66, R_116_68, R_116_77, R_116_83, C_116_60, LN_116_12, LN_116_22, CH_116_32_87]
  rw [R_116_8]
  simp (disch := first | omega | exact q_b_01 _) only [↓reduceIte, q_bk0, q_bk1, q_bk2, q_sg_b, q_b_0, q_b_n0, q_b_1, q_b_n1, q_b_T, q_b_F, q_sg_g, q_sg_sg, q_sg_xs, q_sg_id, q_gu_ne, q_gu_eq, q_g_fne, q_g_cpe, q_w_f, q_v_f, q_u_f, q_fn_f, q_cp_f, q_sg_pg, q_sg_hc, q_lt_t, q_lt_f, q_le_t, q_le_f, q_eq_t, q_eq_f, ne_eq, eq_self, Bool.false_eq_true, Bool.true_eq_false, not_true_eq_false, not_false_eq_true, true_and, and_true, false_and, and_false, true_or, or_true, false_or, or_false, if_true, if_false, Int.reduceAdd, Int.reduceMul, Int.reduceSub, Int.reduceNeg, R_116_0, R_116_15, R_116_18, R_116_25, R_116_28, R_116_35, R_116_40, R_116_51, R_116_63, R_116_66, R_116_68, R_116_77, R_116_83, C_116_60, LN_116_12, LN_116_22, CH_116_32_88]
  rw [R_116_8]
  by_cases c1 : e - b = 7
  · have sm := sm_17 (d := d) (L := L) (xs := xs) (s := s) (O := O) (c := c) (T := T) b0 (by omega) (fun j h1 h2 => hT j h1 (by omega))
    by_cases c2 : eqw T b [114, 101, 97, 100, 101, 114, 115] = true
    · rw [if_pos ⟨c1, c2⟩]
      rw [q_bt c2] at sm
      simp (disch := first | omega | exact q_b_01 _) only [↓reduceIte, q_bk0, q_bk1, q_bk2, q_sg_b, q_b_0, q_b_n0, q_b_1, q_b_n1, q_b_T, q_b_F, q_sg_g, q_sg_sg, q_sg_xs, q_sg_id, q_gu_ne, q_gu_eq, q_g_fne, q_g_cpe, q_w_f, q_v_f, q_u_f, q_fn_f, q_cp_f, q_sg_pg, q_sg_hc, q_lt_t, q_lt_f, q_le_t, q_le_f, q_eq_t, q_eq_f, ne_eq, eq_self, Bool.false_eq_true, Bool.true_eq_false, not_true_eq_false, not_false_eq_true, true_and, and_true, false_and, and_false, true_or, or_true, false_or, or_false, if_true, if_false, Int.reduceAdd, Int.reduceMul, Int.reduceSub, Int.reduceNeg, sm, R_116_0, R_116_15, R_116_18, R_116_25, R_116_28, R_116_35, R_116_40, R_116_51, R_116_63, R_116_66, R_116_68, R_116_77, R_116_83, C_116_60, LN_116_12, LN_116_22, CH_116_32_89]
    · rw [if_neg (fun h => c2 h.2)]
      rw [q_bf c2] at sm
      simp (disch := first | omega | exact q_b_01 _) only [↓reduceIte, q_bk0, q_bk1, q_bk2, q_sg_b, q_b_0, q_b_n0, q_b_1, q_b_n1, q_b_T, q_b_F, q_sg_g, q_sg_sg, q_sg_xs, q_sg_id, q_gu_ne, q_gu_eq, q_g_fne, q_g_cpe, q_w_f, q_v_f, q_u_f, q_fn_f, q_cp_f, q_sg_pg, q_sg_hc, q_lt_t, q_lt_f, q_le_t, q_le_f, q_eq_t, q_eq_f, ne_eq, eq_self, Bool.false_eq_true, Bool.true_eq_false, not_true_eq_false, not_false_eq_true, true_and, and_true, false_and, and_false, true_or, or_true, false_or, or_false, if_true, if_false, Int.reduceAdd, Int.reduceMul, Int.reduceSub, Int.reduceNeg, sm, R_116_0, R_116_15, R_116_18, R_116_25, R_116_28, R_116_35, R_116_40, R_116_51, R_116_63, R_116_66, R_116_68, R_116_77, R_116_83, C_116_60, LN_116_12, LN_116_22, CH_116_32_89]
  · rw [if_neg (fun h => c1 h.1)]
    simp (disch := first | omega | exact q_b_01 _) only [↓reduceIte, q_bk0, q_bk1, q_bk2, q_sg_b, q_b_0, q_b_n0, q_b_1, q_b_n1, q_b_T, q_b_F, q_sg_g, q_sg_sg, q_sg_xs, q_sg_id, q_gu_ne, q_gu_eq, q_g_fne, q_g_cpe, q_w_f, q_v_f, q_u_f, q_fn_f, q_cp_f, q_sg_pg, q_sg_hc, q_lt_t, q_lt_f, q_le_t, q_le_f, q_eq_t, q_eq_f, ne_eq, eq_self, Bool.false_eq_true, Bool.true_eq_false, not_true_eq_false, not_false_eq_true, true_and, and_true, false_and, and_false, true_or, or_true, false_or, or_false, if_true, if_false, Int.reduceAdd, Int.reduceMul, Int.reduceSub, Int.reduceNeg, R_116_0, R_116_15, R_116_18, R_116_25, R_116_28, R_116_35, R_116_40, R_116_51, R_116_63, R_116_66, R_116_68, R_116_77, R_116_83, C_116_60, LN_116_12, LN_116_22, CH_116_32_89]
theorem sm_18 {b : Int} (b0 : 0 ≤ b) (b1 : b + 4 ≤ 400) (hT : ∀ j, b ≤ j → j < b + 4 → q_g s 3 j = T j) : EV (d + 8) 117 0 [.ref 2, .int (q_I b), .int (q_I 90), .int (q_I 4), .null] [] (q_h L xs s O c) = some (.inl (some (.int (q_I (q_b (eqw T b [116, 105, 99, 107] = true))))), q_h L xs (s) O c) := by
  have t0 : q_g s 3 (b + 0) = T b := by
    rw [hT (b + 0) (by omega) (by omega)]
    rw [Int.add_zero]
  have t1 : q_g s 3 (b + 1) = T (b + 1) := by
    rw [hT (b + 1) (by omega) (by omega)]
  have t2 : q_g s 3 (b + 2) = T (b + 1 + 1) := by
    rw [hT (b + 2) (by omega) (by omega)]
    rw [show b + 1 + 1 = b + 2 by omega]
  have t3 : q_g s 3 (b + 3) = T (b + 1 + 1 + 1) := by
    rw [hT (b + 3) (by omega) (by omega)]
    rw [show b + 1 + 1 + 1 = b + 3 by omega]
  have r0 := q_g_rg s 3 (b + 0)
  rw [t0] at r0
  have r1 := q_g_rg s 3 (b + 1)
  rw [t1] at r1
  have r2 := q_g_rg s 3 (b + 2)
  rw [t2] at r2
  have r3 := q_g_rg s 3 (b + 3)
  rw [t3] at r3
  by_cases c0 : T b = 116
  · skip
    by_cases c1 : T (b + 1) = 105
    · skip
      by_cases c2 : T (b + 1 + 1) = 99
      · skip
        by_cases c3 : T (b + 1 + 1 + 1) = 107
        · simp (disch := first | omega | exact q_b_01 _) only [↓reduceIte, q_bk0, q_bk1, q_bk2, q_sg_b, q_b_0, q_b_n0, q_b_1, q_b_n1, q_b_T, q_b_F, q_sg_g, q_sg_sg, q_sg_xs, q_sg_id, q_gu_ne, q_gu_eq, q_g_fne, q_g_cpe, q_w_f, q_v_f, q_u_f, q_fn_f, q_cp_f, q_sg_pg, q_sg_hc, q_lt_t, q_lt_f, q_le_t, q_le_f, q_eq_t, q_eq_f, ne_eq, eq_self, Bool.false_eq_true, Bool.true_eq_false, not_true_eq_false, not_false_eq_true, true_and, and_true, false_and, and_false, true_or, or_true, false_or, or_false, if_true, if_false, Int.reduceAdd, Int.reduceMul, Int.reduceSub, Int.reduceNeg, t0, t1, t2, t3, c0, c1, c2, c3, eqw, decide_true, Bool.and_self, Bool.and_true, Bool.true_and, R_117_0, R_117_3, R_117_9, R_117_18, R_117_27, R_117_30, R_117_32, R_117_38, CH_117_24_90, CH_117_24_91, CH_117_24_92, CH_117_24_93]
        · simp (disch := first | omega | exact q_b_01 _) only [↓reduceIte, q_bk0, q_bk1, q_bk2, q_sg_b, q_b_0, q_b_n0, q_b_1, q_b_n1, q_b_T, q_b_F, q_sg_g, q_sg_sg, q_sg_xs, q_sg_id, q_gu_ne, q_gu_eq, q_g_fne, q_g_cpe, q_w_f, q_v_f, q_u_f, q_fn_f, q_cp_f, q_sg_pg, q_sg_hc, q_lt_t, q_lt_f, q_le_t, q_le_f, q_eq_t, q_eq_f, ne_eq, eq_self, Bool.false_eq_true, Bool.true_eq_false, not_true_eq_false, not_false_eq_true, true_and, and_true, false_and, and_false, true_or, or_true, false_or, or_false, if_true, if_false, Int.reduceAdd, Int.reduceMul, Int.reduceSub, Int.reduceNeg, t0, t1, t2, t3, c0, c1, c2, c3, eqw, decide_true, decide_false, Bool.false_and, Bool.and_false, Bool.and_true, Bool.true_and, R_117_0, R_117_3, R_117_9, R_117_18, R_117_27, R_117_30, R_117_32, R_117_38, CH_117_24_90, CH_117_24_91, CH_117_24_92, CH_117_24_93]
      · simp (disch := first | omega | exact q_b_01 _) only [↓reduceIte, q_bk0, q_bk1, q_bk2, q_sg_b, q_b_0, q_b_n0, q_b_1, q_b_n1, q_b_T, q_b_F, q_sg_g, q_sg_sg, q_sg_xs, q_sg_id, q_gu_ne, q_gu_eq, q_g_fne, q_g_cpe, q_w_f, q_v_f, q_u_f, q_fn_f, q_cp_f, q_sg_pg, q_sg_hc, q_lt_t, q_lt_f, q_le_t, q_le_f, q_eq_t, q_eq_f, ne_eq, eq_self, Bool.false_eq_true, Bool.true_eq_false, not_true_eq_false, not_false_eq_true, true_and, and_true, false_and, and_false, true_or, or_true, false_or, or_false, if_true, if_false, Int.reduceAdd, Int.reduceMul, Int.reduceSub, Int.reduceNeg, t0, t1, t2, c0, c1, c2, eqw, decide_true, decide_false, Bool.false_and, Bool.and_false, Bool.and_true, Bool.true_and, R_117_0, R_117_3, R_117_9, R_117_18, R_117_27, R_117_30, R_117_32, R_117_38, CH_117_24_90, CH_117_24_91, CH_117_24_92]
    · simp (disch := first | omega | exact q_b_01 _) only [↓reduceIte, q_bk0, q_bk1, q_bk2, q_sg_b, q_b_0, q_b_n0, q_b_1, q_b_n1, q_b_T, q_b_F, q_sg_g, q_sg_sg, q_sg_xs, q_sg_id, q_gu_ne, q_gu_eq, q_g_fne, q_g_cpe, q_w_f, q_v_f, q_u_f, q_fn_f, q_cp_f, q_sg_pg, q_sg_hc, q_lt_t, q_lt_f, q_le_t, q_le_f, q_eq_t, q_eq_f, ne_eq, eq_self, Bool.false_eq_true, Bool.true_eq_false, not_true_eq_false, not_false_eq_true, true_and, and_true, false_and, and_false, true_or, or_true, false_or, or_false, if_true, if_false, Int.reduceAdd, Int.reduceMul, Int.reduceSub, Int.reduceNeg, t0, t1, c0, c1, eqw, decide_true, decide_false, Bool.false_and, Bool.and_false, Bool.and_true, Bool.true_and, R_117_0, R_117_3, R_117_9, R_117_18, R_117_27, R_117_30, R_117_32, R_117_38, CH_117_24_90, CH_117_24_91]
  · simp (disch := first | omega | exact q_b_01 _) only [↓reduceIte, q_bk0, q_bk1, q_bk2, q_sg_b, q_b_0, q_b_n0, q_b_1, q_b_n1, q_b_T, q_b_F, q_sg_g, q_sg_sg, q_sg_xs, q_sg_id, q_gu_ne, q_gu_eq, q_g_fne, q_g_cpe, q_w_f, q_v_f, q_u_f, q_fn_f, q_cp_f, q_sg_pg, q_sg_hc, q_lt_t, q_lt_f, q_le_t, q_le_f, q_eq_t, q_eq_f, ne_eq, eq_self, Bool.false_eq_true, Bool.true_eq_false, not_true_eq_false, not_false_eq_true, true_and, and_true, false_and, and_false, true_or, or_true, false_or, or_false, if_true, if_false, Int.reduceAdd, Int.reduceMul, Int.reduceSub, Int.reduceNeg, t0, c0, eqw, decide_true, decide_false, Bool.false_and, Bool.and_false, Bool.and_true, Bool.true_and, R_117_0, R_117_3, R_117_9, R_117_18, R_117_27, R_117_30, R_117_32, R_117_38, CH_117_24_90]
theorem ws_18 {b e : Int} (b0 : 0 ≤ b) (be : b < e) (e1 : e ≤ 400) (hT : ∀ j, b ≤ j → j < e → q_g s 3 j = T j) : EV (d + 9) 116 8 [.ref 2, .int (q_I (b)), .int (q_I (e)), .int (q_I (18)), .int (q_I (90)), .int (q_I (90))] [] (q_h L xs s O c) = if e - b = 4 ∧ eqw T b [116, 105, 99, 107] = true then some (.inl (some (.int (q_I (18)))), q_h L xs (s) O c) else some (.inl (some (.int (q_I (-1)))), q_h L xs (s) O c) := by
  rw [R_116_8]
  simp (disch := first | omega | exact q_b_01 _) only [↓reduceIte, q_bk0, q_bk1, q_bk2, q_sg_b, q_b_0, q_b_n0, q_b_1, q_b_n1, q_b_T, q_b_F, q_sg_g, q_sg_sg, q_sg_xs, q_sg_id, q_gu_ne, q_gu_eq, q_g_fne, q_g_cpe, q_w_f, q_v_f, q_u_f, q_fn_f, q_cp_f, q_sg_pg, q_sg_hc, q_lt_t, q_lt_f, q_le_t, q_le_f, q_eq_t, q_eq_f, ne_eq, eq_self, Bool.false_eq_true, Bool.true_eq_false, not_true_eq_false, not_false_eq_true, true_and, and_true, false_and, and_false, true_or, or_true, false_or, or_false, if_true, if_false, Int.reduceAdd, Int.reduceMul, Int.reduceSub, Int.reduceNeg, R_116_0, R_116_15, R_116_18, R_116_25, R_116_28, R_116_35, R_116_40, R_116_51, R_116_63, R_116_66, R_116_68, R_116_77, R_116_83, C_116_60, LN_116_12, LN_116_22, CH_116_32_90]
  rw [R_116_8]
  simp (disch := first | omega | exact q_b_01 _) only [↓reduceIte, q_bk0, q_bk1, q_bk2, q_sg_b, q_b_0, q_b_n0, q_b_1, q_b_n1, q_b_T, q_b_F, q_sg_g, q_sg_sg, q_sg_xs, q_sg_id, q_gu_ne, q_gu_eq, q_g_fne, q_g_cpe, q_w_f, q_v_f, q_u_f, q_fn_f, q_cp_f, q_sg_pg, q_sg_hc, q_lt_t, q_lt_f, q_le_t, q_le_f, q_eq_t, q_eq_f, ne_eq, eq_self, Bool.false_eq_true, Bool.true_eq_false, not_true_eq_false, not_false_eq_true, true_and, and_true, false_and, and_false, true_or, or_true, false_or, or_false, if_true, if_false, Int.reduceAdd, Int.reduceMul, Int.reduceSub, Int.reduceNeg, R_116_0, R_116_15, R_116_18, R_116_25, R_116_28, R_116_35, R_116_40, R_116_51, R_116_63, R_116_66, R_116_68, R_116_77, R_116_83, C_116_60, LN_116_12, LN_116_22, CH_116_32_91]
  rw [R_116_8]
  simp (disch := first | omega | exact q_b_01 _) only [↓reduceIte, q_bk0, q_bk1, q_bk2, q_sg_b, q_b_0, q_b_n0, q_b_1, q_b_n1, q_b_T, q_b_F, q_sg_g, q_sg_sg, q_sg_xs, q_sg_id, q_gu_ne, q_gu_eq, q_g_fne, q_g_cpe, q_w_f, q_v_f, q_u_f, q_fn_f, q_cp_f, q_sg_pg, q_sg_hc, q_lt_t, q_lt_f, q_le_t, q_le_f, q_eq_t, q_eq_f, ne_eq, eq_self, Bool.false_eq_true, Bool.true_eq_false, not_true_eq_false, not_false_eq_true, true_and, and_true, false_and, and_false, true_or, or_true, false_or, or_false, if_true, if_false, Int.reduceAdd, Int.reduceMul, Int.reduceSub, Int.reduceNeg, R_116_0, R_116_15, R_116_18, R_116_25, R_116_28, R_116_35, R_116_40, R_116_51, R_116_63, R_116_66, R_116_68, R_116_77, R_116_83, C_116_60, LN_116_12, LN_116_22, CH_116_32_92]
  rw [R_116_8]
  simp (disch := first | omega | exact q_b_01 _) only [↓reduceIte, q_bk0, q_bk1, q_bk2, q_sg_b, q_b_0, q_b_n0, q_b_1, q_b_n1, q_b_T, q_b_F, q_sg_g, q_sg_sg, q_sg_xs, q_sg_id, q_gu_ne, q_gu_eq, q_g_fne, q_g_cpe, q_w_f, q_v_f, q_u_f, q_fn_f, q_cp_f, q_sg_pg, q_sg_hc, q_lt_t, q_lt_f, q_le_t, q_le_f, q_eq_t, q_eq_f, ne_eq, eq_self, Bool.false_eq_true, Bool.true_eq_false, not_true_eq_false, not_false_eq_true, true_and, and_true, false_and, and_false, true_or, or_true, false_or, or_false, if_true, if_false, Int.reduceAdd, Int.reduceMul, Int.reduceSub, Int.reduceNeg, R_116_0, R_116_15, R_116_18, R_116_25, R_116_28, R_116_35, R_116_40, R_116_51, R_116_63, R_116_66, R_116_68, R_116_77, R_116_83, C_116_60, LN_116_12, LN_116_22, CH_116_32_93]
  rw [R_116_8]
  by_cases c1 : e - b = 4
  · have sm := sm_18 (d := d) (L := L) (xs := xs) (s := s) (O := O) (c := c) (T := T) b0 (by omega) (fun j h1 h2 => hT j h1 (by omega))
    by_cases c2 : eqw T b [116, 105, 99, 107] = true
    · rw [if_pos ⟨c1, c2⟩]
      rw [q_bt c2] at sm
      simp (disch := first | omega | exact q_b_01 _) only [↓reduceIte, q_bk0, q_bk1, q_bk2, q_sg_b, q_b_0, q_b_n0, q_b_1, q_b_n1, q_b_T, q_b_F, q_sg_g, q_sg_sg, q_sg_xs, q_sg_id, q_gu_ne, q_gu_eq, q_g_fne, q_g_cpe, q_w_f, q_v_f, q_u_f, q_fn_f, q_cp_f, q_sg_pg, q_sg_hc, q_lt_t, q_lt_f, q_le_t, q_le_f, q_eq_t, q_eq_f, ne_eq, eq_self, Bool.false_eq_true, Bool.true_eq_false, not_true_eq_false, not_false_eq_true, true_and, and_true, false_and, and_false, true_or, or_true, false_or, or_false, if_true, if_false, Int.reduceAdd, Int.reduceMul, Int.reduceSub, Int.reduceNeg, sm, R_116_0, R_116_15, R_116_18, R_116_25, R_116_28, R_116_35, R_116_40, R_116_51, R_116_63, R_116_66, R_116_68, R_116_77, R_116_83, C_116_60, LN_116_12, LN_116_22]
    · rw [if_neg (fun h => c2 h.2)]
      rw [q_bf c2] at sm
      simp (disch := first | omega | exact q_b_01 _) only [↓reduceIte, q_bk0, q_bk1, q_bk2, q_sg_b, q_b_0, q_b_n0, q_b_1, q_b_n1, q_b_T, q_b_F, q_sg_g, q_sg_sg, q_sg_xs, q_sg_id, q_gu_ne, q_gu_eq, q_g_fne, q_g_cpe, q_w_f, q_v_f, q_u_f, q_fn_f, q_cp_f, q_sg_pg, q_sg_hc, q_lt_t, q_lt_f, q_le_t, q_le_f, q_eq_t, q_eq_f, ne_eq, eq_self, Bool.false_eq_true, Bool.true_eq_false, not_true_eq_false, not_false_eq_true, true_and, and_true, false_and, and_false, true_or, or_true, false_or, or_false, if_true, if_false, Int.reduceAdd, Int.reduceMul, Int.reduceSub, Int.reduceNeg, sm, R_116_0, R_116_15, R_116_18, R_116_25, R_116_28, R_116_35, R_116_40, R_116_51, R_116_63, R_116_66, R_116_68, R_116_77, R_116_83, C_116_60, LN_116_12, LN_116_22]
      rw [R_116_8]
      simp (disch := first | omega | exact q_b_01 _) only [↓reduceIte, q_bk0, q_bk1, q_bk2, q_sg_b, q_b_0, q_b_n0, q_b_1, q_b_n1, q_b_T, q_b_F, q_sg_g, q_sg_sg, q_sg_xs, q_sg_id, q_gu_ne, q_gu_eq, q_g_fne, q_g_cpe, q_w_f, q_v_f, q_u_f, q_fn_f, q_cp_f, q_sg_pg, q_sg_hc, q_lt_t, q_lt_f, q_le_t, q_le_f, q_eq_t, q_eq_f, ne_eq, eq_self, Bool.false_eq_true, Bool.true_eq_false, not_true_eq_false, not_false_eq_true, true_and, and_true, false_and, and_false, true_or, or_true, false_or, or_false, if_true, if_false, Int.reduceAdd, Int.reduceMul, Int.reduceSub, Int.reduceNeg, R_116_0, R_116_15, R_116_18, R_116_25, R_116_28, R_116_35, R_116_40, R_116_51, R_116_63, R_116_66, R_116_68, R_116_77, R_116_83, C_116_60, LN_116_12, LN_116_22]
  · rw [if_neg (fun h => c1 h.1)]
    simp (disch := first | omega | exact q_b_01 _) only [↓reduceIte, q_bk0, q_bk1, q_bk2, q_sg_b, q_b_0, q_b_n0, q_b_1, q_b_n1, q_b_T, q_b_F, q_sg_g, q_sg_sg, q_sg_xs, q_sg_id, q_gu_ne, q_gu_eq, q_g_fne, q_g_cpe, q_w_f, q_v_f, q_u_f, q_fn_f, q_cp_f, q_sg_pg, q_sg_hc, q_lt_t, q_lt_f, q_le_t, q_le_f, q_eq_t, q_eq_f, ne_eq, eq_self, Bool.false_eq_true, Bool.true_eq_false, not_true_eq_false, not_false_eq_true, true_and, and_true, false_and, and_false, true_or, or_true, false_or, or_false, if_true, if_false, Int.reduceAdd, Int.reduceMul, Int.reduceSub, Int.reduceNeg, R_116_0, R_116_15, R_116_18, R_116_25, R_116_28, R_116_35, R_116_40, R_116_51, R_116_63, R_116_66, R_116_68, R_116_77, R_116_83, C_116_60, LN_116_12, LN_116_22]
    rw [R_116_8]
    simp (disch := first | omega | exact q_b_01 _) only [↓reduceIte, q_bk0, q_bk1, q_bk2, q_sg_b, q_b_0, q_b_n0, q_b_1, q_b_n1, q_b_T, q_b_F, q_sg_g, q_sg_sg, q_sg_xs, q_sg_id, q_gu_ne, q_gu_eq, q_g_fne, q_g_cpe, q_w_f, q_v_f, q_u_f, q_fn_f, q_cp_f, q_sg_pg, q_sg_hc, q_lt_t, q_lt_f, q_le_t, q_le_f, q_eq_t, q_eq_f, ne_eq, eq_self, Bool.false_eq_true, Bool.true_eq_false, not_true_eq_false, not_false_eq_true, true_and, and_true, false_and, and_false, true_or, or_true, false_or, or_false, if_true, if_false, Int.reduceAdd, Int.reduceMul, Int.reduceSub, Int.reduceNeg, R_116_0, R_116_15, R_116_18, R_116_25, R_116_28, R_116_35, R_116_40, R_116_51, R_116_63, R_116_66, R_116_68, R_116_77, R_116_83, C_116_60, LN_116_12, LN_116_22]
theorem cc_wordAt {b e : Int} (b0 : 0 ≤ b) (be : b < e) (e1 : e ≤ 400) (hT : ∀ j, b ≤ j → j < e → q_g s 3 j = T j) : EV (d + 9) 116 0 [.ref 2, .int (q_I (b)), .int (q_I (e)), .null, .null, .null] [] (q_h L xs s O c) = some (.inl (some (.int (q_I (wix T b e 0 WL)))), q_h L xs (s) O c) := by
  simp (disch := first | omega | exact q_b_01 _) only [↓reduceIte, q_bk0, q_bk1, q_bk2, q_sg_b, q_b_0, q_b_n0, q_b_1, q_b_n1, q_b_T, q_b_F, q_sg_g, q_sg_sg, q_sg_xs, q_sg_id, q_gu_ne, q_gu_eq, q_g_fne, q_g_cpe, q_w_f, q_v_f, q_u_f, q_fn_f, q_cp_f, q_sg_pg, q_sg_hc, q_lt_t, q_lt_f, q_le_t, q_le_f, q_eq_t, q_eq_f, ne_eq, eq_self, Bool.false_eq_true, Bool.true_eq_false, not_true_eq_false, not_false_eq_true, true_and, and_true, false_and, and_false, true_or, or_true, false_or, or_false, if_true, if_false, Int.reduceAdd, Int.reduceMul, Int.reduceSub, Int.reduceNeg, R_116_0, R_116_15, R_116_18, R_116_25, R_116_28, R_116_35, R_116_40, R_116_51, R_116_63, R_116_66, R_116_68, R_116_77, R_116_83, C_116_60]
  unfold WL
  rw [ws_0 b0 be e1 hT]
  by_cases c0 : e - b = 3 ∧ eqw T b [112, 117, 116] = true
  · rw [if_pos c0, wix_y c0]
  rw [if_neg c0, wix_n c0]
  rw [ws_1 b0 be e1 hT]
  by_cases c1 : e - b = 4 ∧ eqw T b [100, 114, 111, 112] = true
  · rw [if_pos c1, wix_y c1]
    rfl
  rw [if_neg c1, wix_n c1]
  rw [ws_2 b0 be e1 hT]
  by_cases c2 : e - b = 4 ∧ eqw T b [114, 105, 115, 107] = true
  · rw [if_pos c2, wix_y c2]
    rfl
  rw [if_neg c2, wix_n c2]
  rw [ws_3 b0 be e1 hT]
  by_cases c3 : e - b = 5 ∧ eqw T b [115, 112, 97, 114, 101] = true
  · rw [if_pos c3, wix_y c3]
    rfl
  rw [if_neg c3, wix_n c3]
  rw [ws_4 b0 be e1 hT]
  by_cases c4 : e - b = 4 ∧ eqw T b [99, 111, 115, 116] = true
  · rw [if_pos c4, wix_y c4]
    rfl
  rw [if_neg c4, wix_n c4]
  rw [ws_5 b0 be e1 hT]
  by_cases c5 : e - b = 2 ∧ eqw T b [105, 102] = true
  · rw [if_pos c5, wix_y c5]
    rfl
  rw [if_neg c5, wix_n c5]
  rw [ws_6 b0 be e1 hT]
  by_cases c6 : e - b = 2 ∧ eqw T b [111, 114] = true
  · rw [if_pos c6, wix_y c6]
    rfl
  rw [if_neg c6, wix_n c6]
  rw [ws_7 b0 be e1 hT]
  by_cases c7 : e - b = 3 ∧ eqw T b [97, 110, 100] = true
  · rw [if_pos c7, wix_y c7]
    rfl
  rw [if_neg c7, wix_n c7]
  rw [ws_8 b0 be e1 hT]
  by_cases c8 : e - b = 3 ∧ eqw T b [110, 111, 116] = true
  · rw [if_pos c8, wix_y c8]
    rfl
  rw [if_neg c8, wix_n c8]
  rw [ws_9 b0 be e1 hT]
  by_cases c9 : e - b = 4 ∧ eqw T b [104, 101, 97, 100] = true
  · rw [if_pos c9, wix_y c9]
    rfl
  rw [if_neg c9, wix_n c9]
  rw [ws_10 b0 be e1 hT]
  by_cases c10 : e - b = 4 ∧ eqw T b [115, 108, 105, 112] = true
  · rw [if_pos c10, wix_y c10]
    rfl
  rw [if_neg c10, wix_n c10]
  rw [ws_11 b0 be e1 hT]
  by_cases c11 : e - b = 4 ∧ eqw T b [101, 118, 101, 110] = true
  · rw [if_pos c11, wix_y c11]
    rfl
  rw [if_neg c11, wix_n c11]
  rw [ws_12 b0 be e1 hT]
  by_cases c12 : e - b = 4 ∧ eqw T b [112, 97, 103, 101] = true
  · rw [if_pos c12, wix_y c12]
    rfl
  rw [if_neg c12, wix_n c12]
  rw [ws_13 b0 be e1 hT]
  by_cases c13 : e - b = 4 ∧ eqw T b [107, 105, 110, 100] = true
  · rw [if_pos c13, wix_y c13]
    rfl
  rw [if_neg c13, wix_n c13]
  rw [ws_14 b0 be e1 hT]
  by_cases c14 : e - b = 4 ∧ eqw T b [119, 101, 97, 114] = true
  · rw [if_pos c14, wix_y c14]
    rfl
  rw [if_neg c14, wix_n c14]
  rw [ws_15 b0 be e1 hT]
  by_cases c15 : e - b = 4 ∧ eqw T b [114, 111, 119, 115] = true
  · rw [if_pos c15, wix_y c15]
    rfl
  rw [if_neg c15, wix_n c15]
  rw [ws_16 b0 be e1 hT]
  by_cases c16 : e - b = 7 ∧ eqw T b [118, 101, 114, 115, 105, 111, 110] = true
  · rw [if_pos c16, wix_y c16]
    rfl
  rw [if_neg c16, wix_n c16]
  rw [ws_17 b0 be e1 hT]
  by_cases c17 : e - b = 7 ∧ eqw T b [114, 101, 97, 100, 101, 114, 115] = true
  · rw [if_pos c17, wix_y c17]
    rfl
  rw [if_neg c17, wix_n c17]
  rw [ws_18 b0 be e1 hT]
  by_cases c18 : e - b = 4 ∧ eqw T b [116, 105, 99, 107] = true
  · rw [if_pos c18, wix_y c18]
    rfl
  rw [if_neg c18, wix_n c18]
  rfl
end WRD
