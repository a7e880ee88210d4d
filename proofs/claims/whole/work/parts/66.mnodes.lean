/-! THE REFERENCE: nodes -/
def insf (F : Int → Int32) (a e : Int) (v : Int32) (z : Int) : Int32 := if z = a then v else if a < z ∧ z ≤ e then F (z - 1) else F z
def delf (F : Int → Int32) (a e : Int) (z : Int) : Int32 := if a ≤ z ∧ z < e then F (z + 1) else F z
def setf (F : Int → Int32) (a : Int) (v : Int32) (z : Int) : Int32 := if z = a then v else F z
theorem q_u_c {s : Nat → Int → Int32} {k : Nat} {z v : Int} : q_u s k z v k = setf (s k) z (q_I v) := by
  funext z'
  unfold q_u setf
  by_cases e : z' = z
  · rw [if_pos ⟨rfl, e⟩, if_pos e]
  · rw [if_neg (fun h => e h.2), if_neg e]
theorem q_u_k {s : Nat → Int → Int32} {k k' : Nat} {z v : Int} (h : k' ≠ k) : q_u s k z v k' = s k' := funext fun z' => q_u_n (fun e => h e.1)
section MND
variable {d L : Nat} {xs : Nat → Int32} {s : Nat → Int → Int32} {O : Nat → Int64} {c : Bool × Nat × Nat}
theorem mm_newNode {kind n : Int} (hn : q_g s 285 25 = n) (h0 : 0 ≤ n) (h1 : n < 240) : EV (d) 258 0 [.ref 285, .int (q_I (kind)), .null] [] (q_h L xs s O c) = some (.inl (some (.int (q_I (n)))), q_h L xs (q_u (q_u (q_u s 294 n kind) 295 n 0) 285 25 (n + 1)) O c) := by
  simp (disch := first | omega | exact q_b_01 _) only [↓reduceIte, q_bk0, q_bk1, q_bk2, q_sg_b, q_b_0, q_b_n0, q_b_1, q_b_n1, q_b_T, q_b_F, q_sg_g, q_sg_sg, q_sg_xs, q_sg_id, q_gu_ne, q_gu_eq, q_g_fne, q_g_cpe, q_w_f, q_v_f, q_u_f, q_fn_f, q_cp_f, q_sg_pg, q_sg_hc, q_lt_t, q_lt_f, q_le_t, q_le_f, q_eq_t, q_eq_f, ne_eq, eq_self, Bool.false_eq_true, Bool.true_eq_false, not_true_eq_false, not_false_eq_true, true_and, and_true, false_and, and_false, true_or, or_true, false_or, or_false, if_true, if_false, Int.reduceAdd, Int.reduceMul, Int.reduceSub, Int.reduceNeg, hn, R_258_0, R_258_12, R_258_19, R_258_29]
theorem mm_insert {y p v w r : Int} (hr : q_g s 295 y = r) (y0 : 0 ≤ y) (y1 : y < 240) (p0 : 0 ≤ p) (p1 : p ≤ r) (r1 : r ≤ 5) : ∃ t, EV (d + 1) 261 0 [.ref 285, .int (q_I (y)), .int (q_I (p)), .int (q_I (v)), .int (q_I (w)), .null] [] (q_h L xs s O c) = some (.inl none, q_h L xs (t) O c) ∧ t 296 = insf (s 296) (6 * y + p) (6 * y + r) (q_I v) ∧ t 297 = insf (s 297) (6 * y + p) (6 * y + r) (q_I w) ∧ t 295 = setf (s 295) y (q_I (r + 1)) ∧ ∀ k, k ≠ 295 → k ≠ 296 → k ≠ 297 → t k = s k := by
  have rg : 0 ≤ r := by omega
  obtain ⟨t, e1, e2, e3, e4⟩ := q_for (fun j t => EV (d + 1) 261 8 [.ref 285, .int (q_I (y)), .int (q_I (p)), .int (q_I (v)), .int (q_I (w)), .int (q_I (r - j))] [] (q_h L xs (t) O c)) (fun j t => (∀ z, t 296 z = if 6 * y + (r - j) < z ∧ z ≤ 6 * y + r then s 296 (z - 1) else s 296 z) ∧ (∀ z, t 297 z = if 6 * y + (r - j) < z ∧ z ≤ 6 * y + r then s 297 (z - 1) else s 297 z) ∧ ∀ k, k ≠ 296 → k ≠ 297 → t k = s k) (lo := 0) (hi := r - p) (by omega) (fun j t a1 a2 ⟨t1, t2, t3⟩ => by
    have g1 : q_g t 296 (6 * y + (r - j - 1)) = q_g s 296 (6 * y + (r - j - 1)) := by
      unfold q_g
      rw [t1, if_neg (by omega)]
    have g2 : q_g t 297 (6 * y + (r - j - 1)) = q_g s 297 (6 * y + (r - j - 1)) := by
      unfold q_g
      rw [t2, if_neg (by omega)]
    refine ⟨q_u (q_u t 296 (6 * y + (r - j)) (q_g s 296 (6 * y + (r - j - 1)))) 297 (6 * y + (r - j)) (q_g s 297 (6 * y + (r - j - 1))), ?_, fun z => ?_, fun z => ?_, fun k h1 h2 => ?_⟩
    · rw [R_261_8]
      simp (disch := first | omega | exact q_b_01 _) only [↓reduceIte, q_bk0, q_bk1, q_bk2, q_sg_b, q_b_0, q_b_n0, q_b_1, q_b_n1, q_b_T, q_b_F, q_sg_g, q_sg_sg, q_sg_xs, q_sg_id, q_gu_ne, q_gu_eq, q_g_fne, q_g_cpe, q_w_f, q_v_f, q_u_f, q_fn_f, q_cp_f, q_sg_pg, q_sg_hc, q_lt_t, q_lt_f, q_le_t, q_le_f, q_eq_t, q_eq_f, ne_eq, eq_self, Bool.false_eq_true, Bool.true_eq_false, not_true_eq_false, not_false_eq_true, true_and, and_true, false_and, and_false, true_or, or_true, false_or, or_false, if_true, if_false, Int.reduceAdd, Int.reduceMul, Int.reduceSub, Int.reduceNeg, R_261_0, R_261_6, R_261_14, R_261_27, R_261_39, R_261_42, R_261_45, R_261_54, R_261_61, R_261_64, C_261_24, C_261_33, C_261_36, C_261_51, mm_a, mm_b, mm_enters, g1, g2]
      rw [show r - j + -1 = r - (j + 1) by omega]
    · rw [q_u_k (by decide), q_u_c, q_I_g]
      unfold setf
      by_cases e : z = 6 * y + (r - j)
      · rw [if_pos e, if_pos (by omega), show 6 * y + (r - j - 1) = z - 1 by omega]
      · rw [if_neg e, t1]
        by_cases e2 : 6 * y + (r - j) < z ∧ z ≤ 6 * y + r
        · rw [if_pos e2, if_pos (by omega)]
        · rw [if_neg e2, if_neg (by omega)]
    · rw [q_u_c, q_I_g, q_u_k (by decide)]
      unfold setf
      by_cases e : z = 6 * y + (r - j)
      · rw [if_pos e, if_pos (by omega), show 6 * y + (r - j - 1) = z - 1 by omega]
      · rw [if_neg e, t2]
        by_cases e2 : 6 * y + (r - j) < z ∧ z ≤ 6 * y + r
        · rw [if_pos e2, if_pos (by omega)]
        · rw [if_neg e2, if_neg (by omega)]
    · rw [q_u_k h2, q_u_k h1, t3 k h1 h2]) (t := s) ⟨fun z => by rw [if_neg (by omega)], fun z => by rw [if_neg (by omega)], fun _ _ _ => rfl⟩
  have g5 : q_g t 295 y = r := by
    unfold q_g
    rw [e4 295 (by decide) (by decide)]
    exact hr
  have st : EV (d + 1) 261 0 [.ref 285, .int (q_I (y)), .int (q_I (p)), .int (q_I (v)), .int (q_I (w)), .null] [] (q_h L xs s O c) = some (.inl none, q_h L xs (q_u (q_u (q_u t 296 (6 * y + p) v) 297 (6 * y + p) w) 295 y (r + 1)) O c) := by
    simp (disch := first | omega | exact q_b_01 _) only [↓reduceIte, q_bk0, q_bk1, q_bk2, q_sg_b, q_b_0, q_b_n0, q_b_1, q_b_n1, q_b_T, q_b_F, q_sg_g, q_sg_sg, q_sg_xs, q_sg_id, q_gu_ne, q_gu_eq, q_g_fne, q_g_cpe, q_w_f, q_v_f, q_u_f, q_fn_f, q_cp_f, q_sg_pg, q_sg_hc, q_lt_t, q_lt_f, q_le_t, q_le_f, q_eq_t, q_eq_f, ne_eq, eq_self, Bool.false_eq_true, Bool.true_eq_false, not_true_eq_false, not_false_eq_true, true_and, and_true, false_and, and_false, true_or, or_true, false_or, or_false, if_true, if_false, Int.reduceAdd, Int.reduceMul, Int.reduceSub, Int.reduceNeg, hr, R_261_0, R_261_6, R_261_14, R_261_27, R_261_39, R_261_42, R_261_45, R_261_54, R_261_61, R_261_64, C_261_24, C_261_33, C_261_36, C_261_51]
    rw [show q_I r = q_I (r - 0) by rw [Int.sub_zero]]
    refine Eq.trans e1 ?_
    rw [show r - (r - p) = p by omega, R_261_8]
    simp (disch := first | omega | exact q_b_01 _) only [↓reduceIte, q_bk0, q_bk1, q_bk2, q_sg_b, q_b_0, q_b_n0, q_b_1, q_b_n1, q_b_T, q_b_F, q_sg_g, q_sg_sg, q_sg_xs, q_sg_id, q_gu_ne, q_gu_eq, q_g_fne, q_g_cpe, q_w_f, q_v_f, q_u_f, q_fn_f, q_cp_f, q_sg_pg, q_sg_hc, q_lt_t, q_lt_f, q_le_t, q_le_f, q_eq_t, q_eq_f, ne_eq, eq_self, Bool.false_eq_true, Bool.true_eq_false, not_true_eq_false, not_false_eq_true, true_and, and_true, false_and, and_false, true_or, or_true, false_or, or_false, if_true, if_false, Int.reduceAdd, Int.reduceMul, Int.reduceSub, Int.reduceNeg, g5, R_261_0, R_261_6, R_261_14, R_261_27, R_261_39, R_261_42, R_261_45, R_261_54, R_261_61, R_261_64, C_261_24, C_261_33, C_261_36, C_261_51, mm_enters]
  refine ⟨_, st, ?_, ?_, ?_, fun k h1 h2 h3 => by rw [q_u_k h1, q_u_k h3, q_u_k h2, e4 k h2 h3]⟩
  · rw [q_u_k (by decide), q_u_k (by decide), q_u_c]
    funext z
    unfold setf insf
    by_cases e : z = 6 * y + p
    · rw [if_pos e, if_pos e]
    · rw [if_neg e, if_neg e, e2]
      by_cases c1 : 6 * y + p < z ∧ z ≤ 6 * y + r
      · rw [if_pos c1, if_pos (by omega)]
      · rw [if_neg c1, if_neg (by omega)]
  · rw [q_u_k (by decide), q_u_c, q_u_k (by decide)]
    funext z
    unfold setf insf
    by_cases e : z = 6 * y + p
    · rw [if_pos e, if_pos e]
    · rw [if_neg e, if_neg e, e3]
      by_cases c1 : 6 * y + p < z ∧ z ≤ 6 * y + r
      · rw [if_pos c1, if_pos (by omega)]
      · rw [if_neg c1, if_neg (by omega)]
  · rw [q_u_c, q_u_k (by decide), q_u_k (by decide), e4 295 (by decide) (by decide)]
theorem mm_remove {y p r : Int} (hr : q_g s 295 y = r) (y0 : 0 ≤ y) (y1 : y < 240) (p0 : 0 ≤ p) (p1 : p < r) (r1 : r ≤ 6) : ∃ t, EV (d + 1) 262 0 [.ref 285, .int (q_I (y)), .int (q_I (p)), .null] [] (q_h L xs s O c) = some (.inl none, q_h L xs (t) O c) ∧ t 296 = delf (s 296) (6 * y + p) (6 * y + r - 1) ∧ t 297 = delf (s 297) (6 * y + p) (6 * y + r - 1) ∧ t 295 = setf (s 295) y (q_I (r - 1)) ∧ ∀ k, k ≠ 295 → k ≠ 296 → k ≠ 297 → t k = s k := by
  obtain ⟨t, e1, e2, e3, e4⟩ := q_for (fun j t => EV (d + 1) 262 12 [.ref 285, .int (q_I (y)), .int (q_I (p)), .int (q_I (j))] [] (q_h L xs (t) O c)) (fun j t => (∀ z, t 296 z = if 6 * y + p ≤ z ∧ z < 6 * y + j then s 296 (z + 1) else s 296 z) ∧ (∀ z, t 297 z = if 6 * y + p ≤ z ∧ z < 6 * y + j then s 297 (z + 1) else s 297 z) ∧ ∀ k, k ≠ 296 → k ≠ 297 → t k = q_u s 295 y (r - 1) k) (lo := p) (hi := r - 1) (by omega) (fun j t a1 a2 ⟨t1, t2, t3⟩ => by
    have g1 : q_g t 296 (6 * y + (j + 1)) = q_g s 296 (6 * y + (j + 1)) := by
      unfold q_g
      rw [t1, if_neg (by omega)]
    have g2 : q_g t 297 (6 * y + (j + 1)) = q_g s 297 (6 * y + (j + 1)) := by
      unfold q_g
      rw [t2, if_neg (by omega)]
    have g5 : q_g t 295 y = r - 1 := by
      show (t 295 y).toInt = _
      rw [t3 295 (by decide) (by decide)]
      show q_g (q_u s 295 y (r - 1)) 295 y = _
      rw [q_gu_eq rfl, q_sg_id (by omega) (by omega)]
    refine ⟨q_u (q_u t 296 (6 * y + j) (q_g s 296 (6 * y + (j + 1)))) 297 (6 * y + j) (q_g s 297 (6 * y + (j + 1))), ?_, fun z => ?_, fun z => ?_, fun k h1 h2 => ?_⟩
    · rw [R_262_12 (h0 := y0) (h1 := y1)]
      simp (disch := first | omega | exact q_b_01 _) only [↓reduceIte, q_bk0, q_bk1, q_bk2, q_sg_b, q_b_0, q_b_n0, q_b_1, q_b_n1, q_b_T, q_b_F, q_sg_g, q_sg_sg, q_sg_xs, q_sg_id, q_gu_ne, q_gu_eq, q_g_fne, q_g_cpe, q_w_f, q_v_f, q_u_f, q_fn_f, q_cp_f, q_sg_pg, q_sg_hc, q_lt_t, q_lt_f, q_le_t, q_le_f, q_eq_t, q_eq_f, ne_eq, eq_self, Bool.false_eq_true, Bool.true_eq_false, not_true_eq_false, not_false_eq_true, true_and, and_true, false_and, and_false, true_or, or_true, false_or, or_false, if_true, if_false, Int.reduceAdd, Int.reduceMul, Int.reduceSub, Int.reduceNeg, g5, R_262_0, R_262_7, R_262_10, R_262_19, R_262_22, R_262_33, R_262_44, R_262_50, C_262_30, C_262_38, C_262_41, mm_a, mm_b, mm_enters, g1, g2]
    · rw [q_u_k (by decide), q_u_c, q_I_g]
      unfold setf
      by_cases e : z = 6 * y + j
      · rw [if_pos e, if_pos (by omega), show 6 * y + (j + 1) = z + 1 by omega]
      · rw [if_neg e, t1]
        by_cases e2 : 6 * y + p ≤ z ∧ z < 6 * y + j
        · rw [if_pos e2, if_pos (by omega)]
        · rw [if_neg e2, if_neg (by omega)]
    · rw [q_u_c, q_I_g, q_u_k (by decide)]
      unfold setf
      by_cases e : z = 6 * y + j
      · rw [if_pos e, if_pos (by omega), show 6 * y + (j + 1) = z + 1 by omega]
      · rw [if_neg e, t2]
        by_cases e2 : 6 * y + p ≤ z ∧ z < 6 * y + j
        · rw [if_pos e2, if_pos (by omega)]
        · rw [if_neg e2, if_neg (by omega)]
    · rw [q_u_k h2, q_u_k h1, t3 k h1 h2]) (t := q_u s 295 y (r - 1)) ⟨fun z => by rw [if_neg (by omega), q_u_k (by decide)], fun z => by rw [if_neg (by omega), q_u_k (by decide)], fun _ _ _ => rfl⟩
  have g5 : q_g t 295 y = r - 1 := by
    show (t 295 y).toInt = _
    rw [e4 295 (by decide) (by decide)]
    show q_g (q_u s 295 y (r - 1)) 295 y = _
    rw [q_gu_eq rfl, q_sg_id (by omega) (by omega)]
  have st : EV (d + 1) 262 0 [.ref 285, .int (q_I (y)), .int (q_I (p)), .null] [] (q_h L xs s O c) = some (.inl none, q_h L xs (t) O c) := by
    simp (disch := first | omega | exact q_b_01 _) only [↓reduceIte, q_bk0, q_bk1, q_bk2, q_sg_b, q_b_0, q_b_n0, q_b_1, q_b_n1, q_b_T, q_b_F, q_sg_g, q_sg_sg, q_sg_xs, q_sg_id, q_gu_ne, q_gu_eq, q_g_fne, q_g_cpe, q_w_f, q_v_f, q_u_f, q_fn_f, q_cp_f, q_sg_pg, q_sg_hc, q_lt_t, q_lt_f, q_le_t, q_le_f, q_eq_t, q_eq_f, ne_eq, eq_self, Bool.false_eq_true, Bool.true_eq_false, not_true_eq_false, not_false_eq_true, true_and, and_true, false_and, and_false, true_or, or_true, false_or, or_false, if_true, if_false, Int.reduceAdd, Int.reduceMul, Int.reduceSub, Int.reduceNeg, hr, R_262_0, R_262_7, R_262_10, R_262_19, R_262_22, R_262_33, R_262_44, R_262_50, C_262_30, C_262_38, C_262_41]
    refine Eq.trans e1 ?_
    rw [R_262_12 (h0 := y0) (h1 := y1)]
    simp (disch := first | omega | exact q_b_01 _) only [↓reduceIte, q_bk0, q_bk1, q_bk2, q_sg_b, q_b_0, q_b_n0, q_b_1, q_b_n1, q_b_T, q_b_F, q_sg_g, q_sg_sg, q_sg_xs, q_sg_id, q_gu_ne, q_gu_eq, q_g_fne, q_g_cpe, q_w_f, q_v_f, q_u_f, q_fn_f, q_cp_f, q_sg_pg, q_sg_hc, q_lt_t, q_lt_f, q_le_t, q_le_f, q_eq_t, q_eq_f, ne_eq, eq_self, Bool.false_eq_true, Bool.true_eq_false, not_true_eq_false, not_false_eq_true, true_and, and_true, false_and, and_false, true_or, or_true, false_or, or_false, if_true, if_false, Int.reduceAdd, Int.reduceMul, Int.reduceSub, Int.reduceNeg, g5, R_262_0, R_262_7, R_262_10, R_262_19, R_262_22, R_262_33, R_262_44, R_262_50, C_262_30, C_262_38, C_262_41]
  refine ⟨t, st, ?_, ?_, ?_, fun k h1 h2 h3 => by rw [e4 k h2 h3, q_u_k h1]⟩
  · funext z
    rw [e2]
    unfold delf
    by_cases c1 : 6 * y + p ≤ z ∧ z < 6 * y + (r - 1)
    · rw [if_pos c1, if_pos (by omega)]
    · rw [if_neg c1, if_neg (by omega)]
  · funext z
    rw [e3]
    unfold delf
    by_cases c1 : 6 * y + p ≤ z ∧ z < 6 * y + (r - 1)
    · rw [if_pos c1, if_pos (by omega)]
    · rw [if_neg c1, if_neg (by omega)]
  · rw [e4 295 (by decide) (by decide), q_u_c]
theorem mm_renewed {y n : Int} (hn : q_g s 285 25 = n) (n0 : 48 ≤ n) (n1 : n < 240) (y0 : 0 ≤ y) (y1 : y < 48) : ∃ t, EV (d + 1) 260 0 [.ref 285, .int (q_I (y)), .null, .null] [] (q_h L xs s O c) = some (.inl (some (.int (q_I (n)))), q_h L xs (t) O c) ∧ t 294 = setf (s 294) n (s 294 y) ∧ t 295 = setf (s 295) n (s 295 y) ∧ (∀ z, t 296 z = if 6 * n ≤ z ∧ z < 6 * n + 6 then s 296 (z - 6 * n + 6 * y) else s 296 z) ∧ (∀ z, t 297 z = if 6 * n ≤ z ∧ z < 6 * n + 6 then s 297 (z - 6 * n + 6 * y) else s 297 z) ∧ t 301 = setf (s 301) y (q_I 1) ∧ t 285 = setf (s 285) 25 (q_I (n + 1)) ∧ ∀ k, k ≠ 285 → k ≠ 294 → k ≠ 295 → k ≠ 296 → k ≠ 297 → k ≠ 301 → t k = s k := by
  generalize hM : q_u (q_u (q_u (q_u s 294 n (q_g s 294 y)) 295 n 0) 285 25 (n + 1)) 295 n (q_g s 295 y) = M
  have M296 : M 296 = s 296 := by rw [← hM, q_u_k (by decide), q_u_k (by decide), q_u_k (by decide), q_u_k (by decide)]
  have M297 : M 297 = s 297 := by rw [← hM, q_u_k (by decide), q_u_k (by decide), q_u_k (by decide), q_u_k (by decide)]
  obtain ⟨t, e1, e2, e3, e4⟩ := q_for (fun j t => EV (d + 1) 260 34 [.ref 285, .int (q_I (y)), .int (q_I (n)), .int (q_I (j))] [] (q_h L xs (t) O c)) (fun j t => (∀ z, t 296 z = if 6 * n ≤ z ∧ z < 6 * n + j then s 296 (z - 6 * n + 6 * y) else s 296 z) ∧ (∀ z, t 297 z = if 6 * n ≤ z ∧ z < 6 * n + j then s 297 (z - 6 * n + 6 * y) else s 297 z) ∧ ∀ k, k ≠ 296 → k ≠ 297 → t k = M k) (lo := 0) (hi := 6) (by omega) (fun j t a1 a2 ⟨t1, t2, t3⟩ => by
    have g1 : q_g t 296 (6 * y + j) = q_g s 296 (6 * y + j) := by
      unfold q_g
      rw [t1, if_neg (by omega)]
    have g2 : q_g t 297 (6 * y + j) = q_g s 297 (6 * y + j) := by
      unfold q_g
      rw [t2, if_neg (by omega)]
    refine ⟨q_u (q_u t 296 (6 * n + j) (q_g s 296 (6 * y + j))) 297 (6 * n + j) (q_g s 297 (6 * y + j)), ?_, fun z => ?_, fun z => ?_, fun k h1 h2 => ?_⟩
    · rw [R_260_34]
      simp (disch := first | omega | exact q_b_01 _) only [↓reduceIte, q_bk0, q_bk1, q_bk2, q_sg_b, q_b_0, q_b_n0, q_b_1, q_b_n1, q_b_T, q_b_F, q_sg_g, q_sg_sg, q_sg_xs, q_sg_id, q_gu_ne, q_gu_eq, q_g_fne, q_g_cpe, q_w_f, q_v_f, q_u_f, q_fn_f, q_cp_f, q_sg_pg, q_sg_hc, q_lt_t, q_lt_f, q_le_t, q_le_f, q_eq_t, q_eq_f, ne_eq, eq_self, Bool.false_eq_true, Bool.true_eq_false, not_true_eq_false, not_false_eq_true, true_and, and_true, false_and, and_false, true_or, or_true, false_or, or_false, if_true, if_false, Int.reduceAdd, Int.reduceMul, Int.reduceSub, Int.reduceNeg, R_260_0, R_260_4, R_260_7, R_260_9, R_260_19, R_260_31, R_260_32, R_260_40, R_260_49, R_260_58, R_260_64, R_260_71, C_260_1, C_260_16, C_260_46, C_260_52, C_260_55, mm_a, mm_b, mm_enters, g1, g2]
    · rw [q_u_k (by decide), q_u_c, q_I_g]
      unfold setf
      by_cases e : z = 6 * n + j
      · rw [if_pos e, if_pos (by omega), show 6 * y + j = z - 6 * n + 6 * y by omega]
      · rw [if_neg e, t1]
        by_cases e2 : 6 * n ≤ z ∧ z < 6 * n + j
        · rw [if_pos e2, if_pos (by omega)]
        · rw [if_neg e2, if_neg (by omega)]
    · rw [q_u_c, q_I_g, q_u_k (by decide)]
      unfold setf
      by_cases e : z = 6 * n + j
      · rw [if_pos e, if_pos (by omega), show 6 * y + j = z - 6 * n + 6 * y by omega]
      · rw [if_neg e, t2]
        by_cases e2 : 6 * n ≤ z ∧ z < 6 * n + j
        · rw [if_pos e2, if_pos (by omega)]
        · rw [if_neg e2, if_neg (by omega)]
    · rw [q_u_k h2, q_u_k h1, t3 k h1 h2]) (t := M) ⟨fun z => by rw [if_neg (by omega), M296], fun z => by rw [if_neg (by omega), M297], fun _ _ _ => rfl⟩
  have g9 : q_g (q_u (q_u (q_u s 294 n (q_g s 294 y)) 295 n 0) 285 25 (n + 1)) 295 y = q_g s 295 y := by rw [q_gu_ne (by omega), q_gu_ne (by omega), q_gu_ne (by omega)]
  have st : EV (d + 1) 260 0 [.ref 285, .int (q_I (y)), .null, .null] [] (q_h L xs s O c) = some (.inl (some (.int (q_I (n)))), q_h L xs (q_u t 301 y 1) O c) := by
    simp (disch := first | omega | exact q_b_01 _) only [↓reduceIte, q_bk0, q_bk1, q_bk2, q_sg_b, q_b_0, q_b_n0, q_b_1, q_b_n1, q_b_T, q_b_F, q_sg_g, q_sg_sg, q_sg_xs, q_sg_id, q_gu_ne, q_gu_eq, q_g_fne, q_g_cpe, q_w_f, q_v_f, q_u_f, q_fn_f, q_cp_f, q_sg_pg, q_sg_hc, q_lt_t, q_lt_f, q_le_t, q_le_f, q_eq_t, q_eq_f, ne_eq, eq_self, Bool.false_eq_true, Bool.true_eq_false, not_true_eq_false, not_false_eq_true, true_and, and_true, false_and, and_false, true_or, or_true, false_or, or_false, if_true, if_false, Int.reduceAdd, Int.reduceMul, Int.reduceSub, Int.reduceNeg, g9, R_260_0, R_260_4, R_260_7, R_260_9, R_260_19, R_260_31, R_260_32, R_260_40, R_260_49, R_260_58, R_260_64, R_260_71, C_260_1, C_260_16, C_260_46, C_260_52, C_260_55, mm_isNew, mm_newNode hn (by omega) n1]
    rw [hM]
    refine Eq.trans e1 ?_
    rw [R_260_34]
    simp (disch := first | omega | exact q_b_01 _) only [↓reduceIte, q_bk0, q_bk1, q_bk2, q_sg_b, q_b_0, q_b_n0, q_b_1, q_b_n1, q_b_T, q_b_F, q_sg_g, q_sg_sg, q_sg_xs, q_sg_id, q_gu_ne, q_gu_eq, q_g_fne, q_g_cpe, q_w_f, q_v_f, q_u_f, q_fn_f, q_cp_f, q_sg_pg, q_sg_hc, q_lt_t, q_lt_f, q_le_t, q_le_f, q_eq_t, q_eq_f, ne_eq, eq_self, Bool.false_eq_true, Bool.true_eq_false, not_true_eq_false, not_false_eq_true, true_and, and_true, false_and, and_false, true_or, or_true, false_or, or_false, if_true, if_false, Int.reduceAdd, Int.reduceMul, Int.reduceSub, Int.reduceNeg, R_260_0, R_260_4, R_260_7, R_260_9, R_260_19, R_260_31, R_260_32, R_260_40, R_260_49, R_260_58, R_260_64, R_260_71, C_260_1, C_260_16, C_260_46, C_260_52, C_260_55]
  refine ⟨_, st, ?_, ?_, fun z => by rw [q_u_k (by decide)]; exact e2 z, fun z => by rw [q_u_k (by decide)]; exact e3 z, ?_, ?_, fun k h1 h2 h3 h4 h5 h6 => by rw [q_u_k h6, e4 k h4 h5, ← hM, q_u_k h3, q_u_k h1, q_u_k h3, q_u_k h2]⟩
  · rw [q_u_k (by decide), e4 294 (by decide) (by decide), ← hM, q_u_k (by decide), q_u_k (by decide), q_u_k (by decide), q_u_c, q_I_g]
  · rw [q_u_k (by decide), e4 295 (by decide) (by decide), ← hM, q_u_c, q_u_k (by decide), q_u_c, q_u_k (by decide), q_I_g]
    funext z
    unfold setf
    split <;> rfl
  · rw [q_u_c, e4 301 (by decide) (by decide), ← hM, q_u_k (by decide), q_u_k (by decide), q_u_k (by decide), q_u_k (by decide)]
  · rw [q_u_k (by decide), e4 285 (by decide) (by decide), ← hM, q_u_k (by decide), q_u_c, q_u_k (by decide), q_u_k (by decide)]
theorem mm_splits {y n : Int} (hn : q_g s 285 25 = n) (n0 : 48 ≤ n) (n1 : n < 240) (y0 : 0 ≤ y) (y1 : y < n) : ∃ t, EV (d + 1) 266 0 [.ref 285, .int (q_I (y)), .null, .null] [] (q_h L xs s O c) = some (.inl (some (.int (q_I (n)))), q_h L xs (t) O c) ∧ t 294 = setf (s 294) n (s 294 y) ∧ t 295 = setf (setf (s 295) n (q_I 2)) y (q_I 3) ∧ (∀ z, t 296 z = if z = 6 * n then s 296 (6 * y + 3) else if z = 6 * n + 1 then s 296 (6 * y + 4) else s 296 z) ∧ (∀ z, t 297 z = if z = 6 * n then s 297 (6 * y + 3) else if z = 6 * n + 1 then s 297 (6 * y + 4) else s 297 z) ∧ t 285 = setf (s 285) 25 (q_I (n + 1)) ∧ ∀ k, k ≠ 285 → k ≠ 294 → k ≠ 295 → k ≠ 296 → k ≠ 297 → t k = s k := by
  have st : EV (d + 1) 266 0 [.ref 285, .int (q_I (y)), .null, .null] [] (q_h L xs s O c) = some (.inl (some (.int (q_I (n)))), q_h L xs (q_u (q_u (q_u (q_u (q_u (q_u (q_u (q_u (q_u s 294 n (q_g s 294 y)) 295 n 0) 285 25 (n + 1)) 296 (6 * n + 0) (q_g s 296 (6 * y + 3))) 297 (6 * n + 0) (q_g s 297 (6 * y + 3))) 296 (6 * n + 1) (q_g s 296 (6 * y + 4))) 297 (6 * n + 1) (q_g s 297 (6 * y + 4))) 295 n 2) 295 y 3) O c) := by
    simp (disch := first | omega | exact q_b_01 _) only [↓reduceIte, q_bk0, q_bk1, q_bk2, q_sg_b, q_b_0, q_b_n0, q_b_1, q_b_n1, q_b_T, q_b_F, q_sg_g, q_sg_sg, q_sg_xs, q_sg_id, q_gu_ne, q_gu_eq, q_g_fne, q_g_cpe, q_w_f, q_v_f, q_u_f, q_fn_f, q_cp_f, q_sg_pg, q_sg_hc, q_lt_t, q_lt_f, q_le_t, q_le_f, q_eq_t, q_eq_f, ne_eq, eq_self, Bool.false_eq_true, Bool.true_eq_false, not_true_eq_false, not_false_eq_true, true_and, and_true, false_and, and_false, true_or, or_true, false_or, or_false, if_true, if_false, Int.reduceAdd, Int.reduceMul, Int.reduceSub, Int.reduceNeg, R_266_0, R_266_10, R_266_13, R_266_18, R_266_29, R_266_38, R_266_44, R_266_51, R_266_58, C_266_7, C_266_26, C_266_32, C_266_35, mm_newNode hn (by omega) n1, mm_a, mm_b, mm_enters]
  refine ⟨_, st, ?_, ?_, fun z => ?_, fun z => ?_, ?_, fun k h1 h2 h3 h4 h5 => ?_⟩
  · rw [q_u_k (by decide), q_u_k (by decide), q_u_k (by decide), q_u_k (by decide), q_u_k (by decide), q_u_k (by decide), q_u_k (by decide), q_u_k (by decide), q_u_c, q_I_g]
  · rw [q_u_c, q_u_c, q_u_k (by decide), q_u_k (by decide), q_u_k (by decide), q_u_k (by decide), q_u_k (by decide), q_u_c, q_u_k (by decide)]
    funext z
    unfold setf
    split
    · rfl
    · split <;> rfl
  · rw [q_u_k (by decide), q_u_k (by decide), q_u_k (by decide), q_u_c, q_u_k (by decide), q_u_c, q_u_k (by decide), q_u_k (by decide), q_u_k (by decide), q_I_g, q_I_g]
    unfold setf
    by_cases c1 : z = 6 * n
    · rw [if_neg (by omega), if_pos (by omega), if_pos c1]
    · rw [if_neg c1]
      by_cases c2 : z = 6 * n + 1
      · rw [if_pos c2, if_pos c2]
      · rw [if_neg c2, if_neg c2, if_neg (by omega)]
  · rw [q_u_k (by decide), q_u_k (by decide), q_u_c, q_u_k (by decide), q_u_c, q_u_k (by decide), q_u_k (by decide), q_u_k (by decide), q_u_k (by decide), q_I_g, q_I_g]
    unfold setf
    by_cases c1 : z = 6 * n
    · rw [if_neg (by omega), if_pos (by omega), if_pos c1]
    · rw [if_neg c1]
      by_cases c2 : z = 6 * n + 1
      · rw [if_pos c2, if_pos c2]
      · rw [if_neg c2, if_neg c2, if_neg (by omega)]
  · rw [q_u_k (by decide), q_u_k (by decide), q_u_k (by decide), q_u_k (by decide), q_u_k (by decide), q_u_k (by decide), q_u_c, q_u_k (by decide), q_u_k (by decide)]
  · rw [q_u_k h3, q_u_k h3, q_u_k h5, q_u_k h4, q_u_k h5, q_u_k h4, q_u_k h1, q_u_k h3, q_u_k h2]
end MND
