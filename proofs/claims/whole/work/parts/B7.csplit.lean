/-! THE CLASS: the way is new, nodes are split -/
section CSP
variable {d L : Nat} {xs : Nat → Int32} {s u : Nat → Int → Int32} {O : Nat → Int64} {c : Bool × Nat × Nat} {N x y j l : Int}
theorem cc_renewWay (h8 : q_g s 242 8 = l) (l0 : 0 ≤ l) (l1 : l ≤ 40) (W : ∀ i, 0 ≤ i → i < l → 2 ≤ q_g s 249 i ∧ q_g s 249 i < 176) : ∃ u, EV (d + 1) 51 0 [.ref 242, .null] [] (q_h L xs s O c) = some (.inl none, q_h L xs (u) O c) ∧ (∀ i, 0 ≤ i → i < l → q_g u 247 (q_g s 249 i) = 1 ∧ (q_g s 249 i < 48 → q_g u 248 (q_g s 249 i) = 1)) ∧ (∀ y, (∀ i, 0 ≤ i → i < l → q_g s 249 i ≠ y) → u 247 y = s 247 y ∧ u 248 y = s 248 y) ∧ (∀ k z, k ≠ 247 → k ≠ 248 → ¬ (k = 242 ∧ z = 11) → u k z = s k z) ∧ q_g u 242 11 = 1 := by
  obtain ⟨u, e1, e2, e3, e4⟩ := q_for (fun j u => EV (d + 1) 51 7 [.ref 242, .int (q_I (j))] [] (q_h L xs (u) O c)) (fun j u => (∀ i, 0 ≤ i → i < j → q_g u 247 (q_g s 249 i) = 1 ∧ (q_g s 249 i < 48 → q_g u 248 (q_g s 249 i) = 1)) ∧ (∀ y, (∀ i, 0 ≤ i → i < j → q_g s 249 i ≠ y) → u 247 y = s 247 y ∧ u 248 y = s 248 y) ∧ ∀ k z, k ≠ 247 → k ≠ 248 → u k z = q_u s 242 11 1 k z) (lo := 0) (hi := l) l0 (fun j u j0 j1 ⟨p1, p2, p3⟩ => by
    obtain ⟨w0, w1⟩ := W j j0 j1
    have ug : ∀ k z, k ≠ 247 → k ≠ 248 → ¬ (k = 242 ∧ z = 11) → q_g u k z = q_g s k z := fun k z h1 h2 h3 => by
      show (u k z).toInt = _
      rw [p3 k z h1 h2, q_u_n h3]
      rfl
    have g8 : q_g u 242 8 = l := by rw [ug 242 8 (by omega) (by omega) (by omega), h8]
    have g9 : q_g u 249 j = q_g s 249 j := ug 249 j (by omega) (by omega) (by omega)
    generalize hw : q_g s 249 j = w at *
    by_cases c1 : w < 48
    · refine ⟨q_u (q_u u 248 w 1) 247 w 1, ?_, fun i i0 i1 => ?_, fun z hz => ?_, fun k z h1 h2 => by rw [q_u_n (by omega), q_u_n (by omega), p3 k z h1 h2]⟩
      · have g9' : q_g (q_u u 248 w 1) 249 j = w := by rw [q_gu_ne (by omega), g9]
        rw [R_51_7]
        simp (disch := first | omega | exact q_b_01 _) only [↓reduceIte, q_bk0, q_bk1, q_bk2, q_sg_b, q_b_0, q_b_n0, q_b_1, q_b_n1, q_b_T, q_b_F, q_sg_g, q_sg_sg, q_sg_xs, q_sg_id, q_gu_ne, q_gu_eq, q_g_fne, q_g_cpe, q_w_f, q_v_f, q_u_f, q_fn_f, q_cp_f, q_sg_pg, q_sg_hc, q_lt_t, q_lt_f, q_le_t, q_le_f, q_eq_t, q_eq_f, ne_eq, eq_self, Bool.false_eq_true, Bool.true_eq_false, not_true_eq_false, not_false_eq_true, true_and, and_true, false_and, and_false, true_or, or_true, false_or, or_false, if_true, if_false, Int.reduceAdd, Int.reduceMul, Int.reduceSub, Int.reduceNeg, g8, g9, g9', R_51_0, R_51_5, R_51_15, R_51_25, R_51_35, R_51_37, R_51_43, C_51_22, R_52_0, R_52_6, R_52_13]
      · by_cases e : q_g s 249 i = w
        · rw [e]
          exact ⟨by rw [q_gu_eq rfl]; rfl, fun _ => by rw [q_gu_ne (by omega), q_gu_eq rfl]; rfl⟩
        · have : i ≠ j := fun z => e (by rw [z, hw])
          rw [q_gu_ne (by omega), q_gu_ne (by omega), q_gu_ne (by omega), q_gu_ne (by omega)]
          exact p1 i i0 (by omega)
      · have := hz j j0 (by omega)
        rw [hw] at this
        rw [q_u_n (by omega), q_u_n (by omega), q_u_n (by omega), q_u_n (by omega)]
        exact p2 z (fun i i0 i1 => hz i i0 (by omega))
    · refine ⟨q_u u 247 w 1, ?_, fun i i0 i1 => ?_, fun z hz => ?_, fun k z h1 h2 => by rw [q_u_n (by omega), p3 k z h1 h2]⟩
      · rw [R_51_7]
        simp (disch := first | omega | exact q_b_01 _) only [↓reduceIte, q_bk0, q_bk1, q_bk2, q_sg_b, q_b_0, q_b_n0, q_b_1, q_b_n1, q_b_T, q_b_F, q_sg_g, q_sg_sg, q_sg_xs, q_sg_id, q_gu_ne, q_gu_eq, q_g_fne, q_g_cpe, q_w_f, q_v_f, q_u_f, q_fn_f, q_cp_f, q_sg_pg, q_sg_hc, q_lt_t, q_lt_f, q_le_t, q_le_f, q_eq_t, q_eq_f, ne_eq, eq_self, Bool.false_eq_true, Bool.true_eq_false, not_true_eq_false, not_false_eq_true, true_and, and_true, false_and, and_false, true_or, or_true, false_or, or_false, if_true, if_false, Int.reduceAdd, Int.reduceMul, Int.reduceSub, Int.reduceNeg, g8, g9, R_51_0, R_51_5, R_51_15, R_51_25, R_51_35, R_51_37, R_51_43, C_51_22, R_52_0, R_52_6, R_52_13]
      · by_cases e : q_g s 249 i = w
        · rw [e]
          exact ⟨by rw [q_gu_eq rfl]; rfl, fun _ => by omega⟩
        · have : i ≠ j := fun z => e (by rw [z, hw])
          rw [q_gu_ne (by omega), q_gu_ne (by omega)]
          exact p1 i i0 (by omega)
      · have := hz j j0 (by omega)
        rw [hw] at this
        rw [q_u_n (by omega), q_u_n (by omega)]
        exact p2 z (fun i i0 i1 => hz i i0 (by omega))) (t := q_u s 242 11 1) ⟨fun i i0 i1 => by omega, fun y _ => by rw [q_u_n (by omega), q_u_n (by omega)]; exact ⟨rfl, rfl⟩, fun _ _ _ _ => rfl⟩
  have g8 : q_g u 242 8 = l := by
    show (u 242 8).toInt = _
    rw [e4 242 8 (by omega) (by omega), q_u_n (by omega)]
    exact h8
  refine ⟨u, ?_, e2, e3, fun k z h1 h2 h3 => by rw [e4 k z h1 h2, q_u_n h3], ?_⟩
  · simp (disch := first | omega | exact q_b_01 _) only [↓reduceIte, q_bk0, q_bk1, q_bk2, q_sg_b, q_b_0, q_b_n0, q_b_1, q_b_n1, q_b_T, q_b_F, q_sg_g, q_sg_sg, q_sg_xs, q_sg_id, q_gu_ne, q_gu_eq, q_g_fne, q_g_cpe, q_w_f, q_v_f, q_u_f, q_fn_f, q_cp_f, q_sg_pg, q_sg_hc, q_lt_t, q_lt_f, q_le_t, q_le_f, q_eq_t, q_eq_f, ne_eq, eq_self, Bool.false_eq_true, Bool.true_eq_false, not_true_eq_false, not_false_eq_true, true_and, and_true, false_and, and_false, true_or, or_true, false_or, or_false, if_true, if_false, Int.reduceAdd, Int.reduceMul, Int.reduceSub, Int.reduceNeg, R_51_0, R_51_5, R_51_15, R_51_25, R_51_35, R_51_37, R_51_43, C_51_22]
    refine Eq.trans e1 ?_
    rw [R_51_7]
    simp (disch := first | omega | exact q_b_01 _) only [↓reduceIte, q_bk0, q_bk1, q_bk2, q_sg_b, q_b_0, q_b_n0, q_b_1, q_b_n1, q_b_T, q_b_F, q_sg_g, q_sg_sg, q_sg_xs, q_sg_id, q_gu_ne, q_gu_eq, q_g_fne, q_g_cpe, q_w_f, q_v_f, q_u_f, q_fn_f, q_cp_f, q_sg_pg, q_sg_hc, q_lt_t, q_lt_f, q_le_t, q_le_f, q_eq_t, q_eq_f, ne_eq, eq_self, Bool.false_eq_true, Bool.true_eq_false, not_true_eq_false, not_false_eq_true, true_and, and_true, false_and, and_false, true_or, or_true, false_or, or_false, if_true, if_false, Int.reduceAdd, Int.reduceMul, Int.reduceSub, Int.reduceNeg, g8, R_51_0, R_51_5, R_51_15, R_51_25, R_51_35, R_51_37, R_51_43, C_51_22]
  · show (u 242 11).toInt = _
    rw [e4 242 11 (by omega) (by omega)]
    show q_g (q_u s 242 11 1) 242 11 = 1
    rw [q_gu_eq rfl]
    rfl
/-- a node of the way below the first, that is not split -/
theorem cc_spM (l0 : 1 ≤ l) (l1 : l < 40) (hy : q_g s 249 l = y) (hx : q_g s 249 (l - 1) = x) (hj : q_g s 250 (l - 1) = j) (x0 : 2 ≤ x) (x1 : x < 176) (y0 : 2 ≤ y) (y1 : y < 176) (j0 : 0 ≤ j) (j1 : j < 6) (hr : q_g s 244 y ≤ 4) : EV (d) 57 0 [.ref 242, .int (q_I (l)), .null, .null, .null] [] (q_h L xs s O c) = some (.inl none, q_h L xs (q_u s 245 (6 * x + j) (q_g s 245 (6 * y))) O c) := by
  have rr := q_g_rg s 244 y
  have e1 : q_g s 245 (y * 6) = q_g s 245 (6 * y) := by rw [show y * 6 = 6 * y by omega]
  have g4 : q_g (q_u s 245 (6 * x + j) (q_g s 245 (6 * y))) 244 y = q_g s 244 y := q_gu_ne (by omega)
  have e2 : q_u s 245 (x * 6 + j) (q_g s 245 (6 * y)) = q_u s 245 (6 * x + j) (q_g s 245 (6 * y)) := by rw [show x * 6 + j = 6 * x + j by omega]
  simp (disch := first | omega | exact q_b_01 _) only [↓reduceIte, q_bk0, q_bk1, q_bk2, q_sg_b, q_b_0, q_b_n0, q_b_1, q_b_n1, q_b_T, q_b_F, q_sg_g, q_sg_sg, q_sg_xs, q_sg_id, q_gu_ne, q_gu_eq, q_g_fne, q_g_cpe, q_w_f, q_v_f, q_u_f, q_fn_f, q_cp_f, q_sg_pg, q_sg_hc, q_lt_t, q_lt_f, q_le_t, q_le_f, q_eq_t, q_eq_f, ne_eq, eq_self, Bool.false_eq_true, Bool.true_eq_false, not_true_eq_false, not_false_eq_true, true_and, and_true, false_and, and_false, true_or, or_true, false_or, or_false, if_true, if_false, Int.reduceAdd, Int.reduceMul, Int.reduceSub, Int.reduceNeg, hy, hx, hj, e1, e2, g4, R_57_0, R_57_6, R_57_11, R_57_23, R_57_34, R_57_44, R_57_45, R_57_51, R_57_55, R_57_56, R_57_66, R_57_72, R_57_73, R_57_84, R_57_87, R_57_94, R_57_112, R_57_127, R_57_133, R_57_140, R_57_144, R_57_153, R_57_161, R_57_172, R_57_176, R_57_177, R_57_182, R_57_190, R_57_203, R_57_207, R_57_220, R_57_224, R_57_230, C_57_63, C_57_124, C_57_173, C_57_179, C_57_204, C_57_221]
theorem cc_sp0 (hy : q_g s 249 0 = y) (y0 : 2 ≤ y) (y1 : y < 176) (hr : q_g s 244 y ≤ 4) : EV (d) 57 0 [.ref 242, .int (q_I (0)), .null, .null, .null] [] (q_h L xs s O c) = some (.inl none, q_h L xs (s) O c) := by
  have rr := q_g_rg s 244 y
  simp (disch := first | omega | exact q_b_01 _) only [↓reduceIte, q_bk0, q_bk1, q_bk2, q_sg_b, q_b_0, q_b_n0, q_b_1, q_b_n1, q_b_T, q_b_F, q_sg_g, q_sg_sg, q_sg_xs, q_sg_id, q_gu_ne, q_gu_eq, q_g_fne, q_g_cpe, q_w_f, q_v_f, q_u_f, q_fn_f, q_cp_f, q_sg_pg, q_sg_hc, q_lt_t, q_lt_f, q_le_t, q_le_f, q_eq_t, q_eq_f, ne_eq, eq_self, Bool.false_eq_true, Bool.true_eq_false, not_true_eq_false, not_false_eq_true, true_and, and_true, false_and, and_false, true_or, or_true, false_or, or_false, if_true, if_false, Int.reduceAdd, Int.reduceMul, Int.reduceSub, Int.reduceNeg, hy, R_57_0, R_57_6, R_57_11, R_57_23, R_57_34, R_57_44, R_57_45, R_57_51, R_57_55, R_57_56, R_57_66, R_57_72, R_57_73, R_57_84, R_57_87, R_57_94, R_57_112, R_57_127, R_57_133, R_57_140, R_57_144, R_57_153, R_57_161, R_57_172, R_57_176, R_57_177, R_57_182, R_57_190, R_57_203, R_57_207, R_57_220, R_57_224, R_57_230, C_57_63, C_57_124, C_57_173, C_57_179, C_57_204, C_57_221]
/-- two rows go to a node that is made: the loop -/
theorem cc_sp2 {v' : Value} {l' : Int} (h9 : q_g s 242 9 = N) (n0 : 48 ≤ N) (n1 : N < 176) (y0 : 2 ≤ y) (y1 : y < N) (hr : q_g s 244 y = 5) : ∃ t, EV (d + 2) 57 73 [.ref 242, .int (q_I (l')), .int (q_I (y)), .int (q_I (N)), v'] [] (q_h L xs (q_u (q_u (q_u (q_u s 242 9 (N + 1)) 243 N (q_g s 243 y)) 244 N 0) 247 N 1) O c) = EV (d + 2) 57 140 [.ref 242, .int (q_I (l')), .int (q_I (y)), .int (q_I (N)), .int (q_I (5))] [] (q_h L xs (t) O c) ∧ q_g t 242 9 = N + 1 ∧ t 243 = setf (s 243) N (s 243 y) ∧ t 244 = setf (setf (s 244) N (q_I 2)) y (q_I 3) ∧ (∀ z, t 245 z = if z = 6 * N then s 245 (6 * y + 3) else if z = 6 * N + 1 then s 245 (6 * y + 4) else s 245 z) ∧ (∀ z, t 246 z = if z = 6 * N then s 246 (6 * y + 3) else if z = 6 * N + 1 then s 246 (6 * y + 4) else s 246 z) ∧ t 247 = setf (s 247) N (q_I 1) ∧ (∀ k z, ¬ (243 ≤ k ∧ k ≤ 247) → ¬ (k = 242 ∧ z = 9) → t k z = s k z) := by
  generalize hM : q_u (q_u (q_u (q_u s 242 9 (N + 1)) 243 N (q_g s 243 y)) 244 N 0) 247 N 1 = M
  have M9 : q_g M 242 9 = N + 1 := by rw [← hM, q_gu_ne (by omega), q_gu_ne (by omega), q_gu_ne (by omega), q_gu_eq rfl, q_sg_id (by omega) (by omega)]
  have MN : q_g M 244 N = 0 := by rw [← hM, q_gu_ne (by omega), q_gu_eq rfl]; rfl
  have My : q_g M 244 y = 5 := by rw [← hM, q_gu_ne (by omega), q_gu_ne (by omega), q_gu_ne (by omega), q_gu_ne (by omega), hr]
  have M5 : M 245 = s 245 := by rw [← hM, q_u_k (by decide), q_u_k (by decide), q_u_k (by decide), q_u_k (by decide)]
  have M6 : M 246 = s 246 := by rw [← hM, q_u_k (by decide), q_u_k (by decide), q_u_k (by decide), q_u_k (by decide)]
  have M5g : ∀ z, q_g M 245 z = q_g s 245 z := fun z => by unfold q_g; rw [M5]
  have M6g : ∀ z, q_g M 246 z = q_g s 246 z := fun z => by unfold q_g; rw [M6]
  obtain ⟨t1, a1, a2, a3, a4, a5⟩ := cc_insertAt (d := d) (L := L) (xs := xs) (O := O) (c := c) (s := M) (x := N) (k := 0) (v := q_g s 245 (6 * y + 3)) (w := q_g s 246 (6 * y + 3)) M9 MN (by omega) (by omega) n1 (by omega) (by omega) (by omega)
  have t9 : q_g t1 242 9 = N + 1 := by
    show (t1 242 9).toInt = _
    rw [a5 242 (by decide) (by decide) (by decide)]
    exact M9
  have tN : q_g t1 244 N = 1 := by
    show (t1 244 N).toInt = _
    rw [a4, setf_e rfl]
    rfl
  have ty : q_g t1 244 y = 5 := by
    show (t1 244 y).toInt = _
    rw [a4, setf_n (by omega)]
    exact My
  have t5 : q_g t1 245 (6 * y + 4) = q_g s 245 (6 * y + 4) := by
    show (t1 245 (6 * y + 4)).toInt = _
    rw [a2, insf_other (by omega) (by omega) (by omega) (by omega) (by omega) (by omega), M5]
    rfl
  have t6 : q_g t1 246 (6 * y + 4) = q_g s 246 (6 * y + 4) := by
    show (t1 246 (6 * y + 4)).toInt = _
    rw [a3, insf_other (by omega) (by omega) (by omega) (by omega) (by omega) (by omega), M6]
    rfl
  obtain ⟨t2, b1, b2, b3, b4, b5⟩ := cc_insertAt (d := d) (L := L) (xs := xs) (O := O) (c := c) (s := t1) (x := N) (k := 1) (v := q_g s 245 (6 * y + 4)) (w := q_g s 246 (6 * y + 4)) t9 tN (by omega) (by omega) n1 (by omega) (by omega) (by omega)
  have uy : q_g t2 244 y = 5 := by
    show (t2 244 y).toInt = _
    rw [b4, setf_n (by omega)]
    exact ty
  have u9 : q_g t2 242 9 = N + 1 := by
    show (t2 242 9).toInt = _
    rw [b5 242 (by decide) (by decide) (by decide)]
    exact t9
  have e3 : y * 6 + 3 = 6 * y + 3 := by omega
  have e4 : y * 6 + 4 = 6 * y + 4 := by omega
  refine ⟨q_u t2 244 y 3, ?_, ?_, ?_, ?_, fun z => ?_, fun z => ?_, ?_, fun k z h1 h2 => ?_⟩
  · rw [R_57_73, R_57_76 (h0 := by omega) (h1 := by omega)]
    simp (disch := first | omega | exact q_b_01 _) only [↓reduceIte, q_bk0, q_bk1, q_bk2, q_sg_b, q_b_0, q_b_n0, q_b_1, q_b_n1, q_b_T, q_b_F, q_sg_g, q_sg_sg, q_sg_xs, q_sg_id, q_gu_ne, q_gu_eq, q_g_fne, q_g_cpe, q_w_f, q_v_f, q_u_f, q_fn_f, q_cp_f, q_sg_pg, q_sg_hc, q_lt_t, q_lt_f, q_le_t, q_le_f, q_eq_t, q_eq_f, ne_eq, eq_self, Bool.false_eq_true, Bool.true_eq_false, not_true_eq_false, not_false_eq_true, true_and, and_true, false_and, and_false, true_or, or_true, false_or, or_false, if_true, if_false, Int.reduceAdd, Int.reduceMul, Int.reduceSub, Int.reduceNeg, My, e3, M5g, M6g, a1, R_57_0, R_57_6, R_57_11, R_57_23, R_57_34, R_57_44, R_57_45, R_57_51, R_57_55, R_57_56, R_57_66, R_57_72, R_57_73, R_57_84, R_57_87, R_57_94, R_57_112, R_57_127, R_57_133, R_57_144, R_57_153, R_57_161, R_57_172, R_57_176, R_57_177, R_57_182, R_57_190, R_57_203, R_57_207, R_57_220, R_57_224, R_57_230, C_57_63, C_57_124, C_57_173, C_57_179, C_57_204, C_57_221]
    rw [R_57_76 (h0 := by omega) (h1 := by omega)]
    simp (disch := first | omega | exact q_b_01 _) only [↓reduceIte, q_bk0, q_bk1, q_bk2, q_sg_b, q_b_0, q_b_n0, q_b_1, q_b_n1, q_b_T, q_b_F, q_sg_g, q_sg_sg, q_sg_xs, q_sg_id, q_gu_ne, q_gu_eq, q_g_fne, q_g_cpe, q_w_f, q_v_f, q_u_f, q_fn_f, q_cp_f, q_sg_pg, q_sg_hc, q_lt_t, q_lt_f, q_le_t, q_le_f, q_eq_t, q_eq_f, ne_eq, eq_self, Bool.false_eq_true, Bool.true_eq_false, not_true_eq_false, not_false_eq_true, true_and, and_true, false_and, and_false, true_or, or_true, false_or, or_false, if_true, if_false, Int.reduceAdd, Int.reduceMul, Int.reduceSub, Int.reduceNeg, ty, e4, t5, t6, b1, R_57_0, R_57_6, R_57_11, R_57_23, R_57_34, R_57_44, R_57_45, R_57_51, R_57_55, R_57_56, R_57_66, R_57_72, R_57_73, R_57_84, R_57_87, R_57_94, R_57_112, R_57_127, R_57_133, R_57_144, R_57_153, R_57_161, R_57_172, R_57_176, R_57_177, R_57_182, R_57_190, R_57_203, R_57_207, R_57_220, R_57_224, R_57_230, C_57_63, C_57_124, C_57_173, C_57_179, C_57_204, C_57_221]
    rw [R_57_76 (h0 := by omega) (h1 := by omega)]
    simp (disch := first | omega | exact q_b_01 _) only [↓reduceIte, q_bk0, q_bk1, q_bk2, q_sg_b, q_b_0, q_b_n0, q_b_1, q_b_n1, q_b_T, q_b_F, q_sg_g, q_sg_sg, q_sg_xs, q_sg_id, q_gu_ne, q_gu_eq, q_g_fne, q_g_cpe, q_w_f, q_v_f, q_u_f, q_fn_f, q_cp_f, q_sg_pg, q_sg_hc, q_lt_t, q_lt_f, q_le_t, q_le_f, q_eq_t, q_eq_f, ne_eq, eq_self, Bool.false_eq_true, Bool.true_eq_false, not_true_eq_false, not_false_eq_true, true_and, and_true, false_and, and_false, true_or, or_true, false_or, or_false, if_true, if_false, Int.reduceAdd, Int.reduceMul, Int.reduceSub, Int.reduceNeg, uy, R_57_0, R_57_6, R_57_11, R_57_23, R_57_34, R_57_44, R_57_45, R_57_51, R_57_55, R_57_56, R_57_66, R_57_72, R_57_73, R_57_84, R_57_87, R_57_94, R_57_112, R_57_127, R_57_133, R_57_144, R_57_153, R_57_161, R_57_172, R_57_176, R_57_177, R_57_182, R_57_190, R_57_203, R_57_207, R_57_220, R_57_224, R_57_230, C_57_63, C_57_124, C_57_173, C_57_179, C_57_204, C_57_221]
  · rw [q_gu_ne (by omega), u9]
  · rw [q_u_k (by decide), b5 243 (by decide) (by decide) (by decide), a5 243 (by decide) (by decide) (by decide), ← hM, q_u_k (by decide), q_u_k (by decide), q_u_c, q_u_k (by decide), q_I_g]
  · rw [q_u_c, b4, a4, ← hM, q_u_k (by decide), q_u_c, q_u_k (by decide), q_u_k (by decide)]
    funext z
    unfold setf
    split
    · rfl
    · split <;> rfl
  · rw [q_u_k (by decide), b2, a2, M5]
    unfold insf
    rw [q_I_g, q_I_g]
    by_cases c1 : z = 6 * N
    · rw [if_neg (by omega), if_neg (by omega), if_pos (by omega), if_pos c1]
    · by_cases c2 : z = 6 * N + 1
      · rw [if_pos (by omega), if_neg c1, if_pos c2]
      · rw [if_neg (by omega), if_neg (by omega), if_neg (by omega), if_neg (by omega), if_neg c1, if_neg c2]
  · rw [q_u_k (by decide), b3, a3, M6]
    unfold insf
    rw [q_I_g, q_I_g]
    by_cases c1 : z = 6 * N
    · rw [if_neg (by omega), if_neg (by omega), if_pos (by omega), if_pos c1]
    · by_cases c2 : z = 6 * N + 1
      · rw [if_pos (by omega), if_neg c1, if_pos c2]
      · rw [if_neg (by omega), if_neg (by omega), if_neg (by omega), if_neg (by omega), if_neg c1, if_neg c2]
  · rw [q_u_k (by decide), b5 247 (by decide) (by decide) (by decide), a5 247 (by decide) (by decide) (by decide), ← hM, q_u_c, q_u_k (by decide), q_u_k (by decide), q_u_k (by decide)]
  · rw [q_u_n (by omega), b5 k (by omega) (by omega) (by omega), a5 k (by omega) (by omega) (by omega), ← hM, q_u_n (by omega), q_u_n (by omega), q_u_n (by omega), q_u_n (by omega)]
end CSP
