/-! what a walk that lies read tells -/
def rkx (V : Int → Int) (k : Int) : Nat → Int → Int → Int
  | 0, _, _ => -1
  | f + 1, key, n => if V key = -1 then rkx V k f (key + 1) n else if n = k then key else rkx V k f (key + 1) (n + 1)
theorem rkx_c {V V' : Int → Int} {k : Int} : ∀ (f : Nat) (key n : Int), (∀ z, key ≤ z → z < key + f → V z = V' z) → rkx V k f key n = rkx V' k f key n
  | 0, _, _, _ => rfl
  | f + 1, key, n, h => by
    show (if V key = -1 then _ else _) = (if V' key = -1 then _ else _)
    rw [h key (by omega) (by omega), rkx_c f (key + 1) n (fun z h1 h2 => h z (by omega) (by omega)), rkx_c f (key + 1) (n + 1) (fun z h1 h2 => h z (by omega) (by omega))]
theorem rkx_rg (V : Int → Int) (k : Int) : ∀ (f : Nat) (key n : Int), 0 ≤ key → key + f ≤ 100 → -1 ≤ rkx V k f key n ∧ rkx V k f key n < 100
  | 0, _, _, _, _ => by
    show (-1 : Int) ≤ -1 ∧ (-1 : Int) < 100
    omega
  | f + 1, key, n, h0, h1 => by
    have a := rkx_rg V k f (key + 1) n (by omega) (by omega)
    have b := rkx_rg V k f (key + 1) (n + 1) (by omega) (by omega)
    show -1 ≤ (if V key = -1 then _ else _) ∧ (if V key = -1 then _ else _) < (100 : Int)
    repeat' split
    all_goals omega
section WR
variable {d L : Nat} {xs : Nat → Int32} {s : Nat → Int → Int32} {O : Nat → Int64} {c : Bool × Nat × Nat} {w w' : Nat}
theorem cc_has (hw : isW w) {p : Int} : EV (d + 1) 126 0 [.ref w, .int (q_I (p))] [] (q_h L xs s O c) = some (.inl (some (.int (q_I (q_b (0 ≤ q_sg p ∧ q_sg p < 48 ∧ q_g s (w + 2) (q_sg p) ≠ -1))))), q_h L xs (s) O c) := by
  have := q_sg_rg p
  rw [show q_I p = q_I (q_sg p) from (q_I_sg p).symm]
  generalize q_sg p = p at *
  by_cases h : 0 ≤ p ∧ p < 48
  · simp (disch := first | omega | exact q_b_01 _) only [↓reduceIte, q_bk0, q_bk1, q_bk2, q_sg_b, q_b_0, q_b_n0, q_b_1, q_b_n1, q_b_T, q_b_F, q_sg_g, q_sg_sg, q_sg_xs, q_sg_id, q_gu_ne, q_gu_eq, q_g_fne, q_g_cpe, q_w_f, q_v_f, q_u_f, q_fn_f, q_cp_f, q_sg_pg, q_sg_hc, q_lt_t, q_lt_f, q_le_t, q_le_f, q_eq_t, q_eq_f, ne_eq, eq_self, Bool.false_eq_true, Bool.true_eq_false, not_true_eq_false, not_false_eq_true, true_and, and_true, false_and, and_false, true_or, or_true, false_or, or_false, if_true, if_false, Int.reduceAdd, Int.reduceMul, Int.reduceSub, Int.reduceNeg, R_126_0, R_126_4, R_126_7, R_126_11, R_126_13, R_126_17, R_126_21, R_126_22, C_126_1, cc_isPage, wk_g1 hw, wk_l2 hw]
    repeat' split
    all_goals first | rfl | (rw [q_bt (by omega)]) | (rw [q_bf (by omega)]) | omega
  · simp (disch := first | omega | exact q_b_01 _) only [↓reduceIte, q_bk0, q_bk1, q_bk2, q_sg_b, q_b_0, q_b_n0, q_b_1, q_b_n1, q_b_T, q_b_F, q_sg_g, q_sg_sg, q_sg_xs, q_sg_id, q_gu_ne, q_gu_eq, q_g_fne, q_g_cpe, q_w_f, q_v_f, q_u_f, q_fn_f, q_cp_f, q_sg_pg, q_sg_hc, q_lt_t, q_lt_f, q_le_t, q_le_f, q_eq_t, q_eq_f, ne_eq, eq_self, Bool.false_eq_true, Bool.true_eq_false, not_true_eq_false, not_false_eq_true, true_and, and_true, false_and, and_false, true_or, or_true, false_or, or_false, if_true, if_false, Int.reduceAdd, Int.reduceMul, Int.reduceSub, Int.reduceNeg, h, R_126_0, R_126_4, R_126_7, R_126_11, R_126_13, R_126_17, R_126_21, R_126_22, C_126_1, cc_isPage]
    rw [q_bf (fun x => h ⟨x.1, x.2.1⟩)]
theorem cc_keyByRank (hw : isW w) {k : Int} : ∀ (f : Nat) {key n : Int}, key + f = 100 → 0 ≤ key → 0 ≤ n → n ≤ key → EV (d) 127 4 [.ref w, .int (q_I (k)), .int (q_I (n)), .int (q_I (key))] [] (q_h L xs s O c) = some (.inl (some (.int (q_I (rkx (q_g s (w + 1)) (q_sg k) f key n)))), q_h L xs (s) O c)
  | 0, key, n, a, b, _, _ => by
    rw [R_127_4]
    simp (disch := first | omega | exact q_b_01 _) only [↓reduceIte, q_bk0, q_bk1, q_bk2, q_sg_b, q_b_0, q_b_n0, q_b_1, q_b_n1, q_b_T, q_b_F, q_sg_g, q_sg_sg, q_sg_xs, q_sg_id, q_gu_ne, q_gu_eq, q_g_fne, q_g_cpe, q_w_f, q_v_f, q_u_f, q_fn_f, q_cp_f, q_sg_pg, q_sg_hc, q_lt_t, q_lt_f, q_le_t, q_le_f, q_eq_t, q_eq_f, ne_eq, eq_self, Bool.false_eq_true, Bool.true_eq_false, not_true_eq_false, not_false_eq_true, true_and, and_true, false_and, and_false, true_or, or_true, false_or, or_false, if_true, if_false, Int.reduceAdd, Int.reduceMul, Int.reduceSub, Int.reduceNeg, R_127_0, R_127_10, R_127_14, R_127_16, R_127_20, R_127_25, R_127_27, R_127_30, R_127_36]
    rfl
  | f + 1, key, n, a, b, n0, n1 => by
    rw [R_127_4]
    have i1 := cc_keyByRank hw (k := k) f (key := key + 1) (n := n) (by omega) (by omega) (by omega) (by omega)
    have i2 := cc_keyByRank hw (k := k) f (key := key + 1) (n := n + 1) (by omega) (by omega) (by omega) (by omega)
    simp (disch := first | omega | exact q_b_01 _) only [↓reduceIte, q_bk0, q_bk1, q_bk2, q_sg_b, q_b_0, q_b_n0, q_b_1, q_b_n1, q_b_T, q_b_F, q_sg_g, q_sg_sg, q_sg_xs, q_sg_id, q_gu_ne, q_gu_eq, q_g_fne, q_g_cpe, q_w_f, q_v_f, q_u_f, q_fn_f, q_cp_f, q_sg_pg, q_sg_hc, q_lt_t, q_lt_f, q_le_t, q_le_f, q_eq_t, q_eq_f, ne_eq, eq_self, Bool.false_eq_true, Bool.true_eq_false, not_true_eq_false, not_false_eq_true, true_and, and_true, false_and, and_false, true_or, or_true, false_or, or_false, if_true, if_false, Int.reduceAdd, Int.reduceMul, Int.reduceSub, Int.reduceNeg, R_127_0, R_127_10, R_127_14, R_127_16, R_127_20, R_127_25, R_127_27, R_127_30, R_127_36, wk_g0 hw, wk_l1 hw, i1, i2]
    show _ = some (Sum.inl (some (Value.int (q_I (if q_g s (w + 1) key = -1 then _ else _)))), q_h L xs s O c)
    repeat' split
    all_goals first | rfl | omega
theorem cc_total (hw : isW w) {a b : Int} (a0 : 0 ≤ a) (a1 : a ≤ b) (b1 : b < 100) : EV (d + 1) 128 0 [.ref w, .int (q_I (a)), .int (q_I (b)), .null, .null] [] (q_h L xs s O c) = some (.inl (some (.int (q_I (q_S (fun z => if 0 < q_g s (w + 1) z then q_g s (w + 1) z else 0) a (b + 1))))), q_h L xs (s) O c) := by
  simp (disch := first | omega | exact q_b_01 _) only [↓reduceIte, q_bk0, q_bk1, q_bk2, q_sg_b, q_b_0, q_b_n0, q_b_1, q_b_n1, q_b_T, q_b_F, q_sg_g, q_sg_sg, q_sg_xs, q_sg_id, q_gu_ne, q_gu_eq, q_g_fne, q_g_cpe, q_w_f, q_v_f, q_u_f, q_fn_f, q_cp_f, q_sg_pg, q_sg_hc, q_lt_t, q_lt_f, q_le_t, q_le_f, q_eq_t, q_eq_f, ne_eq, eq_self, Bool.false_eq_true, Bool.true_eq_false, not_true_eq_false, not_false_eq_true, true_and, and_true, false_and, and_false, true_or, or_true, false_or, or_false, if_true, if_false, Int.reduceAdd, Int.reduceMul, Int.reduceSub, Int.reduceNeg, R_128_0, R_128_7, R_128_15, R_128_22, R_128_28, R_128_34, R_128_42, C_128_4, C_128_31, jj_max]
  rw [show (if 0 < a then a else 0) = a by split <;> omega]
  refine (q_sm (fun j x => EV (d + 1) 128 9 [.ref w, .int (q_I (a)), .int (q_I (b)), .int (q_I (x)), .int (q_I (j))] [] (q_h L xs s O c)) (fun z => if 0 < q_g s (w + 1) z then q_g s (w + 1) z else 0) (lo := a) (hi := b + 1) (by omega) (fun j x h1 h2 => ?_)).trans ?_
  · rw [R_128_9]
    simp (disch := first | omega | exact q_b_01 _) only [↓reduceIte, q_bk0, q_bk1, q_bk2, q_sg_b, q_b_0, q_b_n0, q_b_1, q_b_n1, q_b_T, q_b_F, q_sg_g, q_sg_sg, q_sg_xs, q_sg_id, q_gu_ne, q_gu_eq, q_g_fne, q_g_cpe, q_w_f, q_v_f, q_u_f, q_fn_f, q_cp_f, q_sg_pg, q_sg_hc, q_lt_t, q_lt_f, q_le_t, q_le_f, q_eq_t, q_eq_f, ne_eq, eq_self, Bool.false_eq_true, Bool.true_eq_false, not_true_eq_false, not_false_eq_true, true_and, and_true, false_and, and_false, true_or, or_true, false_or, or_false, if_true, if_false, Int.reduceAdd, Int.reduceMul, Int.reduceSub, Int.reduceNeg, R_128_0, R_128_7, R_128_15, R_128_22, R_128_28, R_128_34, R_128_42, C_128_4, C_128_31, jj_max, wk_g0 hw, wk_l1 hw]
  · rw [R_128_9]
    simp (disch := first | omega | exact q_b_01 _) only [↓reduceIte, q_bk0, q_bk1, q_bk2, q_sg_b, q_b_0, q_b_n0, q_b_1, q_b_n1, q_b_T, q_b_F, q_sg_g, q_sg_sg, q_sg_xs, q_sg_id, q_gu_ne, q_gu_eq, q_g_fne, q_g_cpe, q_w_f, q_v_f, q_u_f, q_fn_f, q_cp_f, q_sg_pg, q_sg_hc, q_lt_t, q_lt_f, q_le_t, q_le_f, q_eq_t, q_eq_f, ne_eq, eq_self, Bool.false_eq_true, Bool.true_eq_false, not_true_eq_false, not_false_eq_true, true_and, and_true, false_and, and_false, true_or, or_true, false_or, or_false, if_true, if_false, Int.reduceAdd, Int.reduceMul, Int.reduceSub, Int.reduceNeg, R_128_0, R_128_7, R_128_15, R_128_22, R_128_28, R_128_34, R_128_42, C_128_4, C_128_31]
theorem cc_pagesShared (hw : isW w) (hw' : isW w') : EV (d + 2) 129 0 [.ref w, .ref w', .null, .null] [] (q_h L xs s O c) = some (.inl (some (.int (q_I (q_S (fun p => q_b (q_g s (w + 2) p ≠ -1 ∧ q_g s (w' + 2) p ≠ -1)) 2 48)))), q_h L xs (s) O c) := by
  simp (disch := first | omega | exact q_b_01 _) only [↓reduceIte, q_bk0, q_bk1, q_bk2, q_sg_b, q_b_0, q_b_n0, q_b_1, q_b_n1, q_b_T, q_b_F, q_sg_g, q_sg_sg, q_sg_xs, q_sg_id, q_gu_ne, q_gu_eq, q_g_fne, q_g_cpe, q_w_f, q_v_f, q_u_f, q_fn_f, q_cp_f, q_sg_pg, q_sg_hc, q_lt_t, q_lt_f, q_le_t, q_le_f, q_eq_t, q_eq_f, ne_eq, eq_self, Bool.false_eq_true, Bool.true_eq_false, not_true_eq_false, not_false_eq_true, true_and, and_true, false_and, and_false, true_or, or_true, false_or, or_false, if_true, if_false, Int.reduceAdd, Int.reduceMul, Int.reduceSub, Int.reduceNeg, R_129_0, R_129_10, R_129_15, R_129_18, R_129_23, R_129_26, R_129_29, R_129_35, C_129_12, C_129_20]
  refine (q_sm (fun j x => EV (d + 2) 129 4 [.ref w, .ref w', .int (q_I (x)), .int (q_I (j))] [] (q_h L xs s O c)) (fun p => q_b (q_g s (w + 2) p ≠ -1 ∧ q_g s (w' + 2) p ≠ -1)) (lo := 2) (hi := 48) (by omega) (fun j x h1 h2 => ?_)).trans ?_
  · rw [R_129_4]
    by_cases g1 : q_g s (w + 2) j = -1
    · simp (disch := first | omega | exact q_b_01 _) only [↓reduceIte, q_bk0, q_bk1, q_bk2, q_sg_b, q_b_0, q_b_n0, q_b_1, q_b_n1, q_b_T, q_b_F, q_sg_g, q_sg_sg, q_sg_xs, q_sg_id, q_gu_ne, q_gu_eq, q_g_fne, q_g_cpe, q_w_f, q_v_f, q_u_f, q_fn_f, q_cp_f, q_sg_pg, q_sg_hc, q_lt_t, q_lt_f, q_le_t, q_le_f, q_eq_t, q_eq_f, ne_eq, eq_self, Bool.false_eq_true, Bool.true_eq_false, not_true_eq_false, not_false_eq_true, true_and, and_true, false_and, and_false, true_or, or_true, false_or, or_false, if_true, if_false, Int.reduceAdd, Int.reduceMul, Int.reduceSub, Int.reduceNeg, Int.add_zero, R_129_0, R_129_10, R_129_15, R_129_18, R_129_23, R_129_26, R_129_29, R_129_35, C_129_12, C_129_20, cc_has hw, cc_has hw', wk_rc hw, wk_rc hw', g1]
    · by_cases g2 : q_g s (w' + 2) j = -1
      · simp (disch := first | omega | exact q_b_01 _) only [↓reduceIte, q_bk0, q_bk1, q_bk2, q_sg_b, q_b_0, q_b_n0, q_b_1, q_b_n1, q_b_T, q_b_F, q_sg_g, q_sg_sg, q_sg_xs, q_sg_id, q_gu_ne, q_gu_eq, q_g_fne, q_g_cpe, q_w_f, q_v_f, q_u_f, q_fn_f, q_cp_f, q_sg_pg, q_sg_hc, q_lt_t, q_lt_f, q_le_t, q_le_f, q_eq_t, q_eq_f, ne_eq, eq_self, Bool.false_eq_true, Bool.true_eq_false, not_true_eq_false, not_false_eq_true, true_and, and_true, false_and, and_false, true_or, or_true, false_or, or_false, if_true, if_false, Int.reduceAdd, Int.reduceMul, Int.reduceSub, Int.reduceNeg, Int.add_zero, R_129_0, R_129_10, R_129_15, R_129_18, R_129_23, R_129_26, R_129_29, R_129_35, C_129_12, C_129_20, cc_has hw, cc_has hw', wk_rc hw, wk_rc hw', g1, g2]
      · simp (disch := first | omega | exact q_b_01 _) only [↓reduceIte, q_bk0, q_bk1, q_bk2, q_sg_b, q_b_0, q_b_n0, q_b_1, q_b_n1, q_b_T, q_b_F, q_sg_g, q_sg_sg, q_sg_xs, q_sg_id, q_gu_ne, q_gu_eq, q_g_fne, q_g_cpe, q_w_f, q_v_f, q_u_f, q_fn_f, q_cp_f, q_sg_pg, q_sg_hc, q_lt_t, q_lt_f, q_le_t, q_le_f, q_eq_t, q_eq_f, ne_eq, eq_self, Bool.false_eq_true, Bool.true_eq_false, not_true_eq_false, not_false_eq_true, true_and, and_true, false_and, and_false, true_or, or_true, false_or, or_false, if_true, if_false, Int.reduceAdd, Int.reduceMul, Int.reduceSub, Int.reduceNeg, Int.add_zero, R_129_0, R_129_10, R_129_15, R_129_18, R_129_23, R_129_26, R_129_29, R_129_35, C_129_12, C_129_20, cc_has hw, cc_has hw', wk_rc hw, wk_rc hw', g1, g2]
  · rw [R_129_4]
    simp (disch := first | omega | exact q_b_01 _) only [↓reduceIte, q_bk0, q_bk1, q_bk2, q_sg_b, q_b_0, q_b_n0, q_b_1, q_b_n1, q_b_T, q_b_F, q_sg_g, q_sg_sg, q_sg_xs, q_sg_id, q_gu_ne, q_gu_eq, q_g_fne, q_g_cpe, q_w_f, q_v_f, q_u_f, q_fn_f, q_cp_f, q_sg_pg, q_sg_hc, q_lt_t, q_lt_f, q_le_t, q_le_f, q_eq_t, q_eq_f, ne_eq, eq_self, Bool.false_eq_true, Bool.true_eq_false, not_true_eq_false, not_false_eq_true, true_and, and_true, false_and, and_false, true_or, or_true, false_or, or_false, if_true, if_false, Int.reduceAdd, Int.reduceMul, Int.reduceSub, Int.reduceNeg, R_129_0, R_129_10, R_129_15, R_129_18, R_129_23, R_129_26, R_129_29, R_129_35, C_129_12, C_129_20]
theorem cc_keysApart (hw : isW w) (hw' : isW w') : EV (d) 130 0 [.ref w, .ref w', .null, .null] [] (q_h L xs s O c) = some (.inl (some (.int (q_I (q_S (fun z => q_b (q_g s (w + 1) z ≠ q_g s (w' + 1) z)) 0 100)))), q_h L xs (s) O c) := by
  simp (disch := first | omega | exact q_b_01 _) only [↓reduceIte, q_bk0, q_bk1, q_bk2, q_sg_b, q_b_0, q_b_n0, q_b_1, q_b_n1, q_b_T, q_b_F, q_sg_g, q_sg_sg, q_sg_xs, q_sg_id, q_gu_ne, q_gu_eq, q_g_fne, q_g_cpe, q_w_f, q_v_f, q_u_f, q_fn_f, q_cp_f, q_sg_pg, q_sg_hc, q_lt_t, q_lt_f, q_le_t, q_le_f, q_eq_t, q_eq_f, ne_eq, eq_self, Bool.false_eq_true, Bool.true_eq_false, not_true_eq_false, not_false_eq_true, true_and, and_true, false_and, and_false, true_or, or_true, false_or, or_false, if_true, if_false, Int.reduceAdd, Int.reduceMul, Int.reduceSub, Int.reduceNeg, R_130_0, R_130_10, R_130_14, R_130_16, R_130_20, R_130_22, R_130_25, R_130_28, R_130_34]
  refine (q_sm (fun j x => EV (d) 130 4 [.ref w, .ref w', .int (q_I (x)), .int (q_I (j))] [] (q_h L xs s O c)) (fun z => q_b (q_g s (w + 1) z ≠ q_g s (w' + 1) z)) (lo := 0) (hi := 100) (by omega) (fun j x h1 h2 => ?_)).trans ?_
  · rw [R_130_4]
    by_cases g1 : q_g s (w + 1) j = q_g s (w' + 1) j
    · simp (disch := first | omega | exact q_b_01 _) only [↓reduceIte, q_bk0, q_bk1, q_bk2, q_sg_b, q_b_0, q_b_n0, q_b_1, q_b_n1, q_b_T, q_b_F, q_sg_g, q_sg_sg, q_sg_xs, q_sg_id, q_gu_ne, q_gu_eq, q_g_fne, q_g_cpe, q_w_f, q_v_f, q_u_f, q_fn_f, q_cp_f, q_sg_pg, q_sg_hc, q_lt_t, q_lt_f, q_le_t, q_le_f, q_eq_t, q_eq_f, ne_eq, eq_self, Bool.false_eq_true, Bool.true_eq_false, not_true_eq_false, not_false_eq_true, true_and, and_true, false_and, and_false, true_or, or_true, false_or, or_false, if_true, if_false, Int.reduceAdd, Int.reduceMul, Int.reduceSub, Int.reduceNeg, Int.add_zero, R_130_0, R_130_10, R_130_14, R_130_16, R_130_20, R_130_22, R_130_25, R_130_28, R_130_34, wk_g0 hw, wk_g0 hw', wk_l1 hw, wk_l1 hw', g1]
    · simp (disch := first | omega | exact q_b_01 _) only [↓reduceIte, q_bk0, q_bk1, q_bk2, q_sg_b, q_b_0, q_b_n0, q_b_1, q_b_n1, q_b_T, q_b_F, q_sg_g, q_sg_sg, q_sg_xs, q_sg_id, q_gu_ne, q_gu_eq, q_g_fne, q_g_cpe, q_w_f, q_v_f, q_u_f, q_fn_f, q_cp_f, q_sg_pg, q_sg_hc, q_lt_t, q_lt_f, q_le_t, q_le_f, q_eq_t, q_eq_f, ne_eq, eq_self, Bool.false_eq_true, Bool.true_eq_false, not_true_eq_false, not_false_eq_true, true_and, and_true, false_and, and_false, true_or, or_true, false_or, or_false, if_true, if_false, Int.reduceAdd, Int.reduceMul, Int.reduceSub, Int.reduceNeg, Int.add_zero, R_130_0, R_130_10, R_130_14, R_130_16, R_130_20, R_130_22, R_130_25, R_130_28, R_130_34, wk_g0 hw, wk_g0 hw', wk_l1 hw, wk_l1 hw', g1]
  · rw [R_130_4]
    simp (disch := first | omega | exact q_b_01 _) only [↓reduceIte, q_bk0, q_bk1, q_bk2, q_sg_b, q_b_0, q_b_n0, q_b_1, q_b_n1, q_b_T, q_b_F, q_sg_g, q_sg_sg, q_sg_xs, q_sg_id, q_gu_ne, q_gu_eq, q_g_fne, q_g_cpe, q_w_f, q_v_f, q_u_f, q_fn_f, q_cp_f, q_sg_pg, q_sg_hc, q_lt_t, q_lt_f, q_le_t, q_le_f, q_eq_t, q_eq_f, ne_eq, eq_self, Bool.false_eq_true, Bool.true_eq_false, not_true_eq_false, not_false_eq_true, true_and, and_true, false_and, and_false, true_or, or_true, false_or, or_false, if_true, if_false, Int.reduceAdd, Int.reduceMul, Int.reduceSub, Int.reduceNeg, R_130_0, R_130_10, R_130_14, R_130_16, R_130_20, R_130_22, R_130_25, R_130_28, R_130_34]
end WR
section WF
variable {m : Int → Int} {v q : Int}
theorem iv_rg (Hv : Vw m) (h0 : 0 ≤ v) (h1 : v < 5) (h : iv m v q = true) : 2 ≤ q ∧ q < 48 ∧ 1 ≤ KC m q ∧ KC m q ≤ 100 ∧ ∃ Lv, Lv q ∧ TreeD m 48 Lv (ve m v) := by
  obtain ⟨Lv, T⟩ := Hv v h0 h1
  have T' := T
  unfold iv at h
  rw [Bool.and_eq_true, decide_eq_true_iff] at h
  rcases T with ⟨e, -⟩ | ⟨n, ht, hb, hn, T, Od, -⟩
  · exact absurd e h.1
  · obtain ⟨a, b⟩ := td_root T
    have i := (cn_in T n 13 q a b (by omega)).mp h.2
    obtain ⟨l1, l2⟩ := td_inn T n a b i
    have R := td_rng T l1
    have k := kc_rng T Od (ht q) l1 rfl
    have o := Od.1 q l1
    dsimp only at o
    rw [show (4 : Int) + 0 = 4 from rfl] at o
    unfold KC
    rw [if_neg (by omega), cn_kc T (ht q) 13 l1 rfl (by omega)]
    exact ⟨R.1, R.2.1, k.1, by omega, Lv, l1, T'⟩
theorem bb_t (Hv : Vw m) (h0 : 0 ≤ v) (h1 : v < 5) (h : iv m v q = true) : (BB m (ve m v) q).toInt = KC m q := by
  have r := iv_rg Hv h0 h1 h
  unfold BB
  rw [if_pos (show (decide (ve m v ≠ -1) && Inb m 13 (ve m v) q) = true from h), q_sgI]
  have : KC m q = kcx m 13 q := if_neg (by omega)
  rw [← this]
  exact q_sg_id (by omega) (by omega)
theorem bb_f (h : ¬ iv m v q = true) : (BB m (ve m v) q).toInt = -1 := by
  unfold BB
  rw [if_neg (show ¬ (decide (ve m v ≠ -1) && Inb m 13 (ve m v) q) = true from h)]
  decide
theorem bb_iv (Hv : Vw m) (h0 : 0 ≤ v) (h1 : v < 5) : (BB m (ve m v) q).toInt = -1 ↔ ¬ iv m v q = true := by
  constructor
  · intro e h
    have := bb_t Hv h0 h1 h
    have := iv_rg Hv h0 h1 h
    omega
  · exact bb_f
theorem sz_eq (Hv : Vw m) (h0 : 0 ≤ v) (h1 : v < 5) : cn48 (BB m (ve m v)) = SZ m v := by
  unfold cn48 SZ
  refine q_S_c (fun i _ _ => q_b_c ?_)
  have e : BB m (ve m v) i = q_I (-1) ↔ ¬ iv m v i = true := by
    rw [← bb_iv Hv h0 h1]
    constructor
    · intro e
      rw [e]
      decide
    · intro e
      rw [← q_It (BB m (ve m v) i), e]
  constructor
  · intro a
    by_cases h : iv m v i = true
    · exact h
    · exact absurd (e.mpr h) a
  · intro a b
    exact e.mp b a
theorem sz_rg (m : Int → Int) (v : Int) : 0 ≤ SZ m v ∧ SZ m v ≤ 48 := by
  have := q_S_bd (f := fun p => q_b (iv m v p = true)) (lo := 0) (hi := 48) (a := 0) (b := 1) (fun i _ _ => by
    rcases q_b_01 (iv m v i = true) with e | e <;> rw [e] <;> omega) (by omega)
  unfold SZ
  omega
theorem kc_rgV (Hv : Vw m) (h0 : 0 ≤ v) (h1 : v < 5) : 0 ≤ KC m (ve m v) ∧ KC m (ve m v) ≤ 100 := by
  obtain ⟨Lv, T⟩ := Hv v h0 h1
  rcases T with ⟨e, -⟩ | ⟨n, ht, hb, hn, T, Od, -⟩
  · unfold KC
    rw [if_pos e]
    omega
  · obtain ⟨a, b⟩ := td_root T
    have R := td_rng T a
    have k := kc_rng T Od n a b
    have o := Od.1 _ a
    dsimp only at o
    rw [show (4 : Int) + 0 = 4 from rfl] at o
    unfold KC
    rw [if_neg (by omega), cn_kc T n 13 a b (by omega)]
    omega
theorem dp_rgV (Hv : Vw m) (h0 : 0 ≤ v) (h1 : v < 5) : 0 ≤ DP m (ve m v) ∧ DP m (ve m v) ≤ 13 := by
  obtain ⟨Lv, T⟩ := Hv v h0 h1
  unfold DP
  rcases T with ⟨e, -⟩ | ⟨n, ht, hb, hn, T, Od, -⟩
  · rw [if_pos e]
    omega
  · obtain ⟨a, b⟩ := td_root T
    have R := td_rng T a
    rw [if_neg (by omega), cn_dp T n 13 a b (by omega)]
    omega
theorem q_S_lo {f : Int → Int} {lo hi : Int} (h : lo < hi) (h0 : f lo = 0) : q_S f lo hi = q_S f (lo + 1) hi := by
  have key : ∀ n : Nat, q_sn f lo (n + 1) = f lo + q_sn f (lo + 1) n := by
    intro n
    induction n with
    | zero =>
      show 0 + f (lo + ((0 : Nat) : Int)) = f lo + 0
      rw [show lo + ((0 : Nat) : Int) = lo by omega]
      omega
    | succ n ih =>
      show q_sn f lo (n + 1) + f (lo + ((n + 1 : Nat) : Int)) = f lo + (q_sn f (lo + 1) n + f (lo + 1 + (n : Int)))
      rw [ih, show lo + ((n + 1 : Nat) : Int) = lo + 1 + n by omega]
      omega
  unfold q_S
  rw [show (hi - lo).toNat = (hi - (lo + 1)).toNat + 1 by omega, key, h0]
  omega
end WF
