/-! THE REFERENCE: letters and signs -/
/-- the text that the reference reads -/
def TxM (T : Int → Int) (E : Int) (s : Nat → Int → Int32) : Prop := q_g s 285 10 = E ∧ (q_g s 285 9 = -1 ∧ (∀ j, 0 ≤ j → j < E → q_g s 290 j = T j) ∨ q_g s 285 9 = 1049 ∧ ∀ j, 0 ≤ j → j < E → q_g s 286 (1049 + j) = T j)
section MTK
variable {d L : Nat} {xs : Nat → Int32} {s : Nat → Int → Int32} {O : Nat → Int64} {c : Bool × Nat × Nat} {T : Int → Int} {E i : Int}
theorem TxM_u {z v : Int} (h : TxM T E s) (hz : z ≠ 9 ∧ z ≠ 10) : TxM T E (q_u s 285 z v) := by
  unfold TxM at *
  rw [q_gu_ne (by omega), q_gu_ne (by omega), q_u_f (by decide), q_u_f (by decide)]
  exact h
theorem q_u_same {k : Nat} {z v : Int} (h : q_g s k z = v) : q_u s k z v = s := by
  funext k' z'
  unfold q_u
  split
  · rename_i e
    rw [e.1, e.2, ← h, q_I_g]
  · rfl
theorem mm_letter (h : TxM T E s) (E1 : E ≤ 400) {k : Int} (k0 : 0 ≤ k) (k1 : k < E) : EV (d) 228 0 [.ref 285, .int (q_I (k))] [] (q_h L xs s O c) = some (.inl (some (.int (q_I (T k)))), q_h L xs (s) O c) := by
  rcases h.2 with ⟨b, t⟩ | ⟨b, t⟩
  · have := t k k0 k1
    simp (disch := first | omega | exact q_b_01 _) only [↓reduceIte, q_bk0, q_bk1, q_bk2, q_sg_b, q_b_0, q_b_n0, q_b_1, q_b_n1, q_b_T, q_b_F, q_sg_g, q_sg_sg, q_sg_xs, q_sg_id, q_gu_ne, q_gu_eq, q_g_fne, q_g_cpe, q_w_f, q_v_f, q_u_f, q_fn_f, q_cp_f, q_sg_pg, q_sg_hc, q_lt_t, q_lt_f, q_le_t, q_le_f, q_eq_t, q_eq_f, ne_eq, eq_self, Bool.false_eq_true, Bool.true_eq_false, not_true_eq_false, not_false_eq_true, true_and, and_true, false_and, and_false, true_or, or_true, false_or, or_false, if_true, if_false, Int.reduceAdd, Int.reduceMul, Int.reduceSub, Int.reduceNeg, b, this, R_228_0, R_228_8, R_228_14, R_228_17, R_228_28]
  · have := t k k0 k1
    simp (disch := first | omega | exact q_b_01 _) only [↓reduceIte, q_bk0, q_bk1, q_bk2, q_sg_b, q_b_0, q_b_n0, q_b_1, q_b_n1, q_b_T, q_b_F, q_sg_g, q_sg_sg, q_sg_xs, q_sg_id, q_gu_ne, q_gu_eq, q_g_fne, q_g_cpe, q_w_f, q_v_f, q_u_f, q_fn_f, q_cp_f, q_sg_pg, q_sg_hc, q_lt_t, q_lt_f, q_le_t, q_le_f, q_eq_t, q_eq_f, ne_eq, eq_self, Bool.false_eq_true, Bool.true_eq_false, not_true_eq_false, not_false_eq_true, true_and, and_true, false_and, and_false, true_or, or_true, false_or, or_false, if_true, if_false, Int.reduceAdd, Int.reduceMul, Int.reduceSub, Int.reduceNeg, b, this, R_228_0, R_228_8, R_228_14, R_228_17, R_228_28]
theorem mm_skipL : ∀ (n : Nat) {i : Int} (s : Nat → Int → Int32), TxM T E s → E ≤ 400 → (∀ j, 0 ≤ j → j < E → 0 ≤ T j ∧ T j ≤ 255) → q_g s 285 11 = i → E - i ≤ n → 0 ≤ i → i ≤ 1000 → EV (d + 1) 229 0 [.ref 285] [] (q_h L xs s O c) = some (.inl none, q_h L xs (q_u s 285 11 (sk T E i)) O c)
  | n, i, s, h, E1, hr, ha, hn, i0, i1 => by
    by_cases c1 : i < E
    · have tr := hr i i0 c1
      cases n with
      | zero => omega
      | succ n =>
        by_cases c2 : T i = 32
        · have ih := mm_skipL n (i := i + 1) (q_u s 285 11 (i + 1)) (TxM_u h (by omega)) E1 hr (by rw [q_gu_eq rfl, q_sg_id (by omega) (by omega)]) (by omega) (by omega) (by omega)
          have e : sk T E i = sk T E (i + 1) := run_yes c1 (by omega) (by omega)
          rw [q_uu_eq] at ih
          rw [e, R_229_0]
          simp (disch := first | omega | exact q_b_01 _) only [↓reduceIte, q_bk0, q_bk1, q_bk2, q_sg_b, q_b_0, q_b_n0, q_b_1, q_b_n1, q_b_T, q_b_F, q_sg_g, q_sg_sg, q_sg_xs, q_sg_id, q_gu_ne, q_gu_eq, q_g_fne, q_g_cpe, q_w_f, q_v_f, q_u_f, q_fn_f, q_cp_f, q_sg_pg, q_sg_hc, q_lt_t, q_lt_f, q_le_t, q_le_f, q_eq_t, q_eq_f, ne_eq, eq_self, Bool.false_eq_true, Bool.true_eq_false, not_true_eq_false, not_false_eq_true, true_and, and_true, false_and, and_false, true_or, or_true, false_or, or_false, if_true, if_false, Int.reduceAdd, Int.reduceMul, Int.reduceSub, Int.reduceNeg, ha, h.1, R_229_11, R_229_19, R_229_24, R_229_34, R_229_37, C_229_16, mm_letter h E1, c2, ih]
        · have e : sk T E i = i := run_no (by omega)
          rw [e, q_u_same ha, R_229_0]
          simp (disch := first | omega | exact q_b_01 _) only [↓reduceIte, q_bk0, q_bk1, q_bk2, q_sg_b, q_b_0, q_b_n0, q_b_1, q_b_n1, q_b_T, q_b_F, q_sg_g, q_sg_sg, q_sg_xs, q_sg_id, q_gu_ne, q_gu_eq, q_g_fne, q_g_cpe, q_w_f, q_v_f, q_u_f, q_fn_f, q_cp_f, q_sg_pg, q_sg_hc, q_lt_t, q_lt_f, q_le_t, q_le_f, q_eq_t, q_eq_f, ne_eq, eq_self, Bool.false_eq_true, Bool.true_eq_false, not_true_eq_false, not_false_eq_true, true_and, and_true, false_and, and_false, true_or, or_true, false_or, or_false, if_true, if_false, Int.reduceAdd, Int.reduceMul, Int.reduceSub, Int.reduceNeg, ha, h.1, R_229_11, R_229_19, R_229_24, R_229_34, R_229_37, C_229_16, mm_letter h E1, c2]
    · have e : sk T E i = i := run_no (by omega)
      have er : -2147483648 ≤ E := by
        rw [← h.1]
        exact (q_g_rg s 285 10).1
      rw [e, q_u_same ha, R_229_0]
      simp (disch := first | omega | exact q_b_01 _) only [↓reduceIte, q_bk0, q_bk1, q_bk2, q_sg_b, q_b_0, q_b_n0, q_b_1, q_b_n1, q_b_T, q_b_F, q_sg_g, q_sg_sg, q_sg_xs, q_sg_id, q_gu_ne, q_gu_eq, q_g_fne, q_g_cpe, q_w_f, q_v_f, q_u_f, q_fn_f, q_cp_f, q_sg_pg, q_sg_hc, q_lt_t, q_lt_f, q_le_t, q_le_f, q_eq_t, q_eq_f, ne_eq, eq_self, Bool.false_eq_true, Bool.true_eq_false, not_true_eq_false, not_false_eq_true, true_and, and_true, false_and, and_false, true_or, or_true, false_or, or_false, if_true, if_false, Int.reduceAdd, Int.reduceMul, Int.reduceSub, Int.reduceNeg, ha, h.1, R_229_11, R_229_19, R_229_24, R_229_34, R_229_37, C_229_16]
variable (h : TxM T E s) (E1 : E ≤ 400) (hr : ∀ j, 0 ≤ j → j < E → 0 ≤ T j ∧ T j ≤ 255) (ha : q_g s 285 11 = i) (i0 : 0 ≤ i) (i1 : i ≤ 1000)
theorem mm_skip (h : TxM T E s) (E1 : E ≤ 400) (hr : ∀ j, 0 ≤ j → j < E → 0 ≤ T j ∧ T j ≤ 255) (ha : q_g s 285 11 = i) (i0 : 0 ≤ i) (i1 : i ≤ 1000) : EV (d + 1) 229 0 [.ref 285] [] (q_h L xs s O c) = some (.inl none, q_h L xs (q_u s 285 11 (sk T E i)) O c) := mm_skipL (E - i).toNat s h E1 hr ha (by omega) i0 i1
theorem sk_rg (T : Int → Int) {E i : Int} (E1 : E ≤ 400) (i0 : 0 ≤ i) (i1 : i ≤ 1000) : i ≤ sk T E i ∧ sk T E i ≤ 1000 ∧ (i ≤ E → sk T E i ≤ E) := by
  have g := run_ge 32 32 T E i
  refine ⟨g, ?_, fun h => run_le h⟩
  by_cases c : i ≤ E
  · have := run_le (lo := 32) (hi := 32) (T := T) c
    show run 32 32 T E i ≤ 1000
    omega
  · show run 32 32 T E i ≤ 1000
    rw [run_no (by omega)]
    exact i1
theorem mm_isSign (h : TxM T E s) (E1 : E ≤ 400) (hr : ∀ j, 0 ≤ j → j < E → 0 ≤ T j ∧ T j ≤ 255) (ha : q_g s 285 11 = i) (i0 : 0 ≤ i) (i1 : i ≤ 1000) {x : Int} (x0 : 0 ≤ x) (x1 : x ≤ 255) : EV (d + 2) 230 0 [.ref 285, .int (q_I (x))] [] (q_h L xs s O c) = some (.inl (some (.int (q_I (q_b (sk T E i < E ∧ T (sk T E i) = x))))), q_h L xs (q_u s 285 11 (sk T E i)) O c) := by
  have g := sk_rg T E1 i0 i1
  have h' : TxM T E (q_u s 285 11 (sk T E i)) := TxM_u h (by omega)
  have er : -2147483648 ≤ E := by
    rw [← h.1]
    exact (q_g_rg s 285 10).1
  by_cases c1 : sk T E i < E
  · have tr := hr (sk T E i) (by omega) c1
    by_cases c2 : T (sk T E i) = x
    · simp (disch := first | omega | exact q_b_01 _) only [↓reduceIte, q_bk0, q_bk1, q_bk2, q_sg_b, q_b_0, q_b_n0, q_b_1, q_b_n1, q_b_T, q_b_F, q_sg_g, q_sg_sg, q_sg_xs, q_sg_id, q_gu_ne, q_gu_eq, q_g_fne, q_g_cpe, q_w_f, q_v_f, q_u_f, q_fn_f, q_cp_f, q_sg_pg, q_sg_hc, q_lt_t, q_lt_f, q_le_t, q_le_f, q_eq_t, q_eq_f, ne_eq, eq_self, Bool.false_eq_true, Bool.true_eq_false, not_true_eq_false, not_false_eq_true, true_and, and_true, false_and, and_false, true_or, or_true, false_or, or_false, if_true, if_false, Int.reduceAdd, Int.reduceMul, Int.reduceSub, Int.reduceNeg, h.1, R_230_0, R_230_4, R_230_15, R_230_23, R_230_27, R_230_31, R_230_32, C_230_1, C_230_20, mm_skip h E1 hr ha i0 i1, mm_letter h' E1, c2]
    · simp (disch := first | omega | exact q_b_01 _) only [↓reduceIte, q_bk0, q_bk1, q_bk2, q_sg_b, q_b_0, q_b_n0, q_b_1, q_b_n1, q_b_T, q_b_F, q_sg_g, q_sg_sg, q_sg_xs, q_sg_id, q_gu_ne, q_gu_eq, q_g_fne, q_g_cpe, q_w_f, q_v_f, q_u_f, q_fn_f, q_cp_f, q_sg_pg, q_sg_hc, q_lt_t, q_lt_f, q_le_t, q_le_f, q_eq_t, q_eq_f, ne_eq, eq_self, Bool.false_eq_true, Bool.true_eq_false, not_true_eq_false, not_false_eq_true, true_and, and_true, false_and, and_false, true_or, or_true, false_or, or_false, if_true, if_false, Int.reduceAdd, Int.reduceMul, Int.reduceSub, Int.reduceNeg, h.1, c2, R_230_0, R_230_4, R_230_15, R_230_23, R_230_27, R_230_31, R_230_32, C_230_1, C_230_20, mm_skip h E1 hr ha i0 i1, mm_letter h' E1]
  · simp (disch := first | omega | exact q_b_01 _) only [↓reduceIte, q_bk0, q_bk1, q_bk2, q_sg_b, q_b_0, q_b_n0, q_b_1, q_b_n1, q_b_T, q_b_F, q_sg_g, q_sg_sg, q_sg_xs, q_sg_id, q_gu_ne, q_gu_eq, q_g_fne, q_g_cpe, q_w_f, q_v_f, q_u_f, q_fn_f, q_cp_f, q_sg_pg, q_sg_hc, q_lt_t, q_lt_f, q_le_t, q_le_f, q_eq_t, q_eq_f, ne_eq, eq_self, Bool.false_eq_true, Bool.true_eq_false, not_true_eq_false, not_false_eq_true, true_and, and_true, false_and, and_false, true_or, or_true, false_or, or_false, if_true, if_false, Int.reduceAdd, Int.reduceMul, Int.reduceSub, Int.reduceNeg, h.1, R_230_0, R_230_4, R_230_15, R_230_23, R_230_27, R_230_31, R_230_32, C_230_1, C_230_20, mm_skip h E1 hr ha i0 i1]
theorem mm_here (h : TxM T E s) (E1 : E ≤ 400) (hr : ∀ j, 0 ≤ j → j < E → 0 ≤ T j ∧ T j ≤ 255) (ha : q_g s 285 11 = i) (i0 : 0 ≤ i) (i1 : i ≤ 1000) : EV (d + 2) 233 0 [.ref 285] [] (q_h L xs s O c) = some (.inl (some (.int (q_I (sk T E i)))), q_h L xs (q_u s 285 11 (sk T E i)) O c) := by
  have g := sk_rg T E1 i0 i1
  simp (disch := first | omega | exact q_b_01 _) only [↓reduceIte, q_bk0, q_bk1, q_bk2, q_sg_b, q_b_0, q_b_n0, q_b_1, q_b_n1, q_b_T, q_b_F, q_sg_g, q_sg_sg, q_sg_xs, q_sg_id, q_gu_ne, q_gu_eq, q_g_fne, q_g_cpe, q_w_f, q_v_f, q_u_f, q_fn_f, q_cp_f, q_sg_pg, q_sg_hc, q_lt_t, q_lt_f, q_le_t, q_le_f, q_eq_t, q_eq_f, ne_eq, eq_self, Bool.false_eq_true, Bool.true_eq_false, not_true_eq_false, not_false_eq_true, true_and, and_true, false_and, and_false, true_or, or_true, false_or, or_false, if_true, if_false, Int.reduceAdd, Int.reduceMul, Int.reduceSub, Int.reduceNeg, R_233_0, R_233_4, C_233_1, mm_skip h E1 hr ha i0 i1]
theorem mm_wrong {w : Int} : EV (d) 232 0 [.ref 285, .int (q_I (w))] [] (q_h L xs s O c) = some (.inl none, q_h L xs (if q_g s 285 12 = -1 then q_u s 285 12 w else s) O c) := by
  by_cases h : q_g s 285 12 = -1
  · simp (disch := first | omega | exact q_b_01 _) only [↓reduceIte, q_bk0, q_bk1, q_bk2, q_sg_b, q_b_0, q_b_n0, q_b_1, q_b_n1, q_b_T, q_b_F, q_sg_g, q_sg_sg, q_sg_xs, q_sg_id, q_gu_ne, q_gu_eq, q_g_fne, q_g_cpe, q_w_f, q_v_f, q_u_f, q_fn_f, q_cp_f, q_sg_pg, q_sg_hc, q_lt_t, q_lt_f, q_le_t, q_le_f, q_eq_t, q_eq_f, ne_eq, eq_self, Bool.false_eq_true, Bool.true_eq_false, not_true_eq_false, not_false_eq_true, true_and, and_true, false_and, and_false, true_or, or_true, false_or, or_false, if_true, if_false, Int.reduceAdd, Int.reduceMul, Int.reduceSub, Int.reduceNeg, h, R_232_0, R_232_8, R_232_13]
  · simp (disch := first | omega | exact q_b_01 _) only [↓reduceIte, q_bk0, q_bk1, q_bk2, q_sg_b, q_b_0, q_b_n0, q_b_1, q_b_n1, q_b_T, q_b_F, q_sg_g, q_sg_sg, q_sg_xs, q_sg_id, q_gu_ne, q_gu_eq, q_g_fne, q_g_cpe, q_w_f, q_v_f, q_u_f, q_fn_f, q_cp_f, q_sg_pg, q_sg_hc, q_lt_t, q_lt_f, q_le_t, q_le_f, q_eq_t, q_eq_f, ne_eq, eq_self, Bool.false_eq_true, Bool.true_eq_false, not_true_eq_false, not_false_eq_true, true_and, and_true, false_and, and_false, true_or, or_true, false_or, or_false, if_true, if_false, Int.reduceAdd, Int.reduceMul, Int.reduceSub, Int.reduceNeg, h, R_232_0, R_232_8, R_232_13]
theorem mm_isFigure (h : TxM T E s) (E1 : E ≤ 400) (hr : ∀ j, 0 ≤ j → j < E → 0 ≤ T j ∧ T j ≤ 255) (ha : q_g s 285 11 = i) (i0 : 0 ≤ i) (i1 : i ≤ 1000) : EV (d + 2) 235 0 [.ref 285] [] (q_h L xs s O c) = some (.inl (some (.int (q_I (q_b (q_g s 285 12 = -1 ∧ sk T E i < E ∧ 48 ≤ T (sk T E i) ∧ T (sk T E i) ≤ 57))))), q_h L xs (q_u s 285 11 (sk T E i)) O c) := by
  have g := sk_rg T E1 i0 i1
  have h' : TxM T E (q_u s 285 11 (sk T E i)) := TxM_u h (by omega)
  have er : -2147483648 ≤ E := by
    rw [← h.1]
    exact (q_g_rg s 285 10).1
  by_cases c0 : q_g s 285 12 = -1
  · by_cases c1 : sk T E i < E
    · have tr := hr (sk T E i) (by omega) c1
      by_cases c2 : 48 ≤ T (sk T E i) ∧ T (sk T E i) ≤ 57
      · simp (disch := first | omega | exact q_b_01 _) only [↓reduceIte, q_bk0, q_bk1, q_bk2, q_sg_b, q_b_0, q_b_n0, q_b_1, q_b_n1, q_b_T, q_b_F, q_sg_g, q_sg_sg, q_sg_xs, q_sg_id, q_gu_ne, q_gu_eq, q_g_fne, q_g_cpe, q_w_f, q_v_f, q_u_f, q_fn_f, q_cp_f, q_sg_pg, q_sg_hc, q_lt_t, q_lt_f, q_le_t, q_le_f, q_eq_t, q_eq_f, ne_eq, eq_self, Bool.false_eq_true, Bool.true_eq_false, not_true_eq_false, not_false_eq_true, true_and, and_true, false_and, and_false, true_or, or_true, false_or, or_false, if_true, if_false, Int.reduceAdd, Int.reduceMul, Int.reduceSub, Int.reduceNeg, h.1, c0, R_235_0, R_235_4, R_235_12, R_235_23, R_235_31, R_235_38, R_235_41, R_235_45, R_235_46, C_235_1, C_235_28, C_235_35, mm_skip h E1 hr ha i0 i1, mm_letter h' E1, mm_isIn]
      · simp (disch := first | omega | exact q_b_01 _) only [↓reduceIte, q_bk0, q_bk1, q_bk2, q_sg_b, q_b_0, q_b_n0, q_b_1, q_b_n1, q_b_T, q_b_F, q_sg_g, q_sg_sg, q_sg_xs, q_sg_id, q_gu_ne, q_gu_eq, q_g_fne, q_g_cpe, q_w_f, q_v_f, q_u_f, q_fn_f, q_cp_f, q_sg_pg, q_sg_hc, q_lt_t, q_lt_f, q_le_t, q_le_f, q_eq_t, q_eq_f, ne_eq, eq_self, Bool.false_eq_true, Bool.true_eq_false, not_true_eq_false, not_false_eq_true, true_and, and_true, false_and, and_false, true_or, or_true, false_or, or_false, if_true, if_false, Int.reduceAdd, Int.reduceMul, Int.reduceSub, Int.reduceNeg, h.1, c0, c2, R_235_0, R_235_4, R_235_12, R_235_23, R_235_31, R_235_38, R_235_41, R_235_45, R_235_46, C_235_1, C_235_28, C_235_35, mm_skip h E1 hr ha i0 i1, mm_letter h' E1, mm_isIn]
    · simp (disch := first | omega | exact q_b_01 _) only [↓reduceIte, q_bk0, q_bk1, q_bk2, q_sg_b, q_b_0, q_b_n0, q_b_1, q_b_n1, q_b_T, q_b_F, q_sg_g, q_sg_sg, q_sg_xs, q_sg_id, q_gu_ne, q_gu_eq, q_g_fne, q_g_cpe, q_w_f, q_v_f, q_u_f, q_fn_f, q_cp_f, q_sg_pg, q_sg_hc, q_lt_t, q_lt_f, q_le_t, q_le_f, q_eq_t, q_eq_f, ne_eq, eq_self, Bool.false_eq_true, Bool.true_eq_false, not_true_eq_false, not_false_eq_true, true_and, and_true, false_and, and_false, true_or, or_true, false_or, or_false, if_true, if_false, Int.reduceAdd, Int.reduceMul, Int.reduceSub, Int.reduceNeg, h.1, c0, R_235_0, R_235_4, R_235_12, R_235_23, R_235_31, R_235_38, R_235_41, R_235_45, R_235_46, C_235_1, C_235_28, C_235_35, mm_skip h E1 hr ha i0 i1]
  · simp (disch := first | omega | exact q_b_01 _) only [↓reduceIte, q_bk0, q_bk1, q_bk2, q_sg_b, q_b_0, q_b_n0, q_b_1, q_b_n1, q_b_T, q_b_F, q_sg_g, q_sg_sg, q_sg_xs, q_sg_id, q_gu_ne, q_gu_eq, q_g_fne, q_g_cpe, q_w_f, q_v_f, q_u_f, q_fn_f, q_cp_f, q_sg_pg, q_sg_hc, q_lt_t, q_lt_f, q_le_t, q_le_f, q_eq_t, q_eq_f, ne_eq, eq_self, Bool.false_eq_true, Bool.true_eq_false, not_true_eq_false, not_false_eq_true, true_and, and_true, false_and, and_false, true_or, or_true, false_or, or_false, if_true, if_false, Int.reduceAdd, Int.reduceMul, Int.reduceSub, Int.reduceNeg, c0, R_235_0, R_235_4, R_235_12, R_235_23, R_235_31, R_235_38, R_235_41, R_235_45, R_235_46, C_235_1, C_235_28, C_235_35, mm_skip h E1 hr ha i0 i1]
end MTK
