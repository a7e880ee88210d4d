/-! THE CLASS: nodes of the draft -/
section CND
variable {d L : Nat} {xs : Nat → Int32} {s : Nat → Int → Int32} {O : Nat → Int64} {c : Bool × Nat × Nat}
theorem cc_isNode {x n : Int} (hn : q_g s 242 9 = n) : EV (d) 48 0 [.ref 242, .int (q_I (x))] [] (q_h L xs s O c) = some (.inl (some (.int (q_I (q_b (2 ≤ q_sg x ∧ q_sg x < n ∧ q_sg x < 176))))), q_h L xs (s) O c) := by
  have := q_g_rg s 242 9
  rw [hn] at this
  simp (disch := first | omega | exact q_b_01 _) only [↓reduceIte, q_bk0, q_bk1, q_bk2, q_sg_b, q_b_0, q_b_n0, q_b_1, q_b_n1, q_b_T, q_b_F, q_sg_g, q_sg_sg, q_sg_xs, q_sg_id, q_gu_ne, q_gu_eq, q_g_fne, q_g_cpe, q_w_f, q_v_f, q_u_f, q_fn_f, q_cp_f, q_sg_pg, q_sg_hc, q_lt_t, q_lt_f, q_le_t, q_le_f, q_eq_t, q_eq_f, ne_eq, eq_self, Bool.false_eq_true, Bool.true_eq_false, not_true_eq_false, not_false_eq_true, true_and, and_true, false_and, and_false, true_or, or_true, false_or, or_false, if_true, if_false, Int.reduceAdd, Int.reduceMul, Int.reduceSub, Int.reduceNeg, hn, R_48_0, R_48_5, R_48_13, R_48_20, R_48_24, R_48_25]
  repeat' split
  all_goals first | rfl | (rw [q_bt (by omega)]) | (rw [q_bf (by omega)]) | omega
theorem cc_makeNode {kind n : Int} (hn : q_g s 242 9 = n) (n0 : 48 ≤ n) (n1 : n < 176) : EV (d) 54 0 [.ref 242, .int (q_I (kind)), .null] [] (q_h L xs s O c) = some (.inl (some (.int (q_I (n)))), q_h L xs (q_u (q_u (q_u (q_u s 242 9 (n + 1)) 243 n kind) 244 n 0) 247 n 1) O c) := by
  simp (disch := first | omega | exact q_b_01 _) only [↓reduceIte, q_bk0, q_bk1, q_bk2, q_sg_b, q_b_0, q_b_n0, q_b_1, q_b_n1, q_b_T, q_b_F, q_sg_g, q_sg_sg, q_sg_xs, q_sg_id, q_gu_ne, q_gu_eq, q_g_fne, q_g_cpe, q_w_f, q_v_f, q_u_f, q_fn_f, q_cp_f, q_sg_pg, q_sg_hc, q_lt_t, q_lt_f, q_le_t, q_le_f, q_eq_t, q_eq_f, ne_eq, eq_self, Bool.false_eq_true, Bool.true_eq_false, not_true_eq_false, not_false_eq_true, true_and, and_true, false_and, and_false, true_or, or_true, false_or, or_false, if_true, if_false, Int.reduceAdd, Int.reduceMul, Int.reduceSub, Int.reduceNeg, hn, R_54_0, R_54_9, R_54_19, R_54_24, R_54_26, R_54_41, R_54_48, R_54_55, R_54_62]
theorem cp_ins {s : Nat → Int → Int32} {k : Nat} {a n v : Int} (h : 0 ≤ n) : q_u (q_cp s k a k (a + 1) n) k a v k = insf (s k) a (a + n) (q_I v) := by
  funext z
  rw [q_u_c]
  unfold setf insf
  by_cases e : z = a
  · rw [if_pos e, if_pos e]
  · rw [if_neg e, if_neg e]
    unfold q_cp
    by_cases e2 : a < z ∧ z ≤ a + n
    · rw [if_pos e2, if_pos ⟨rfl, by omega, by omega⟩, show z - (a + 1) + a = z - 1 by omega]
    · rw [if_neg e2, if_neg (fun h => e2 ⟨by omega, by omega⟩)]
theorem cp_del {s : Nat → Int → Int32} {k : Nat} {a n : Int} : q_cp s k (a + 1) k a n k = delf (s k) a (a + n) := by
  funext z
  unfold q_cp delf
  by_cases e2 : a ≤ z ∧ z < a + n
  · rw [if_pos e2, if_pos ⟨rfl, e2⟩, show z - a + (a + 1) = z + 1 by omega]
  · rw [if_neg e2, if_neg (fun h => e2 h.2)]
theorem q_cp_k {s : Nat → Int → Int32} {k1 : Nat} {a : Int} {k2 : Nat} {b n : Int} {k : Nat} (h : k ≠ k2) : q_cp s k1 a k2 b n k = s k := q_cp_n h
theorem cc_insertAt {x k v w r n : Int} (hn : q_g s 242 9 = n) (hr : q_g s 244 x = r) (x0 : 2 ≤ x) (x1 : x < n) (x2 : x < 176) (k0 : 0 ≤ k) (k1 : k ≤ r) (r1 : r ≤ 5) : ∃ t, EV (d + 1) 55 0 [.ref 242, .int (q_I (x)), .int (q_I (k)), .int (q_I (v)), .int (q_I (w)), .null] [] (q_h L xs s O c) = some (.inl none, q_h L xs (t) O c) ∧ t 245 = insf (s 245) (6 * x + k) (6 * x + r) (q_I v) ∧ t 246 = insf (s 246) (6 * x + k) (6 * x + r) (q_I w) ∧ t 244 = setf (s 244) x (q_I (r + 1)) ∧ ∀ k, k ≠ 244 → k ≠ 245 → k ≠ 246 → t k = s k := by
  have st : EV (d + 1) 55 0 [.ref 242, .int (q_I (x)), .int (q_I (k)), .int (q_I (v)), .int (q_I (w)), .null] [] (q_h L xs s O c) = some (.inl none, q_h L xs (q_u (q_u (q_u (q_cp (q_cp s 245 (x * 6 + k) 245 (x * 6 + k + 1) (r - k)) 246 (x * 6 + k) 246 (x * 6 + k + 1) (r - k)) 245 (x * 6 + k) v) 246 (x * 6 + k) w) 244 x (r + 1)) O c) := by
    simp (disch := first | omega | exact q_b_01 _) only [↓reduceIte, q_bk0, q_bk1, q_bk2, q_sg_b, q_b_0, q_b_n0, q_b_1, q_b_n1, q_b_T, q_b_F, q_sg_g, q_sg_sg, q_sg_xs, q_sg_id, q_gu_ne, q_gu_eq, q_g_fne, q_g_cpe, q_w_f, q_v_f, q_u_f, q_fn_f, q_cp_f, q_sg_pg, q_sg_hc, q_lt_t, q_lt_f, q_le_t, q_le_f, q_eq_t, q_eq_f, ne_eq, eq_self, Bool.false_eq_true, Bool.true_eq_false, not_true_eq_false, not_false_eq_true, true_and, and_true, false_and, and_false, true_or, or_true, false_or, or_false, if_true, if_false, Int.reduceAdd, Int.reduceMul, Int.reduceSub, Int.reduceNeg, hr, R_55_0, R_55_5, R_55_8, R_55_12, R_55_19, R_55_22, R_55_28, R_55_33, R_55_38, R_55_39, R_55_67, R_55_72, R_55_92, R_55_97, R_55_105, R_55_114, R_55_121, R_55_124, C_55_2, C_55_69, C_55_94, cc_isNode hn, q_cpi ly_a245 ly_a245, q_cpi ly_a246 ly_a246]
  have e6 : x * 6 + k = 6 * x + k := by omega
  refine ⟨_, st, ?_, ?_, ?_, fun k h1 h2 h3 => by rw [q_u_k h1, q_u_k h3, q_u_k h2, q_cp_k h3, q_cp_k h2]⟩
  · rw [q_u_k (by decide), q_u_k (by decide), q_u_c, q_cp_k (by decide), ← q_u_c, cp_ins (by omega), e6, show 6 * x + k + (r - k) = 6 * x + r by omega]
  · rw [q_u_k (by decide), q_u_c, q_u_k (by decide), ← q_u_c, cp_ins (by omega), q_cp_k (by decide), e6, show 6 * x + k + (r - k) = 6 * x + r by omega]
  · rw [q_u_c, q_u_k (by decide), q_u_k (by decide), q_cp_k (by decide), q_cp_k (by decide)]
theorem cc_deleteAt {x k r n : Int} (hn : q_g s 242 9 = n) (hr : q_g s 244 x = r) (x0 : 2 ≤ x) (x1 : x < n) (x2 : x < 176) (k0 : 0 ≤ k) (k1 : k < r) (r1 : r ≤ 6) : ∃ t, EV (d + 1) 56 0 [.ref 242, .int (q_I (x)), .int (q_I (k)), .null] [] (q_h L xs s O c) = some (.inl none, q_h L xs (t) O c) ∧ t 245 = delf (s 245) (6 * x + k) (6 * x + r - 1) ∧ t 246 = delf (s 246) (6 * x + k) (6 * x + r - 1) ∧ t 244 = setf (s 244) x (q_I (r - 1)) ∧ ∀ k, k ≠ 244 → k ≠ 245 → k ≠ 246 → t k = s k := by
  have st : EV (d + 1) 56 0 [.ref 242, .int (q_I (x)), .int (q_I (k)), .null] [] (q_h L xs s O c) = some (.inl none, q_h L xs (q_u (q_cp (q_cp s 245 (x * 6 + k + 1) 245 (x * 6 + k) (r - k - 1)) 246 (x * 6 + k + 1) 246 (x * 6 + k) (r - k - 1)) 244 x (r - 1)) O c) := by
    simp (disch := first | omega | exact q_b_01 _) only [↓reduceIte, q_bk0, q_bk1, q_bk2, q_sg_b, q_b_0, q_b_n0, q_b_1, q_b_n1, q_b_T, q_b_F, q_sg_g, q_sg_sg, q_sg_xs, q_sg_id, q_gu_ne, q_gu_eq, q_g_fne, q_g_cpe, q_w_f, q_v_f, q_u_f, q_fn_f, q_cp_f, q_sg_pg, q_sg_hc, q_lt_t, q_lt_f, q_le_t, q_le_f, q_eq_t, q_eq_f, ne_eq, eq_self, Bool.false_eq_true, Bool.true_eq_false, not_true_eq_false, not_false_eq_true, true_and, and_true, false_and, and_false, true_or, or_true, false_or, or_false, if_true, if_false, Int.reduceAdd, Int.reduceMul, Int.reduceSub, Int.reduceNeg, hr, R_56_0, R_56_5, R_56_8, R_56_12, R_56_19, R_56_22, R_56_23, R_56_48, R_56_55, R_56_73, R_56_80, R_56_87, R_56_90, C_56_2, C_56_52, C_56_77, cc_isNode hn, q_cpi ly_a245 ly_a245, q_cpi ly_a246 ly_a246]
  have e6 : x * 6 + k = 6 * x + k := by omega
  refine ⟨_, st, ?_, ?_, ?_, fun k h1 h2 h3 => by rw [q_u_k h1, q_cp_k h3, q_cp_k h2]⟩
  · rw [q_u_k (by decide), q_cp_k (by decide), cp_del, e6, show 6 * x + k + (r - k - 1) = 6 * x + r - 1 by omega]
  · rw [q_u_k (by decide), cp_del, q_cp_k (by decide), e6, show 6 * x + k + (r - k - 1) = 6 * x + r - 1 by omega]
  · rw [q_u_c, q_cp_k (by decide), q_cp_k (by decide)]
end CND
