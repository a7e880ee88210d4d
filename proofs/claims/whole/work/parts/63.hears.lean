/-! THE REFERENCE: what was seen -/
section HE
variable {d L : Nat} {xs : Nat → Int32} {s t : Nat → Int → Int32} {O : Nat → Int64} {c : Bool × Nat × Nat} {b : Int} {m : Int → Int} {Tp : Int → Int} {R N : Int}
theorem mm_hearL {v set x2 : Int} {u : Nat → Int → Int32} (v0 : 0 ≤ v) (v1 : v < 5) (r0 : 0 ≤ R) (r1 : R ≤ 20) (hT : ∀ k, 0 ≤ k → k < 2 * R → q_g u 290 k = Tp k ∧ 0 ≤ Tp k) (hg : ∀ r, 0 ≤ r → r < R → gr Tp r) (hV : ∀ z, 0 ≤ z → z < 100 → q_g u 308 (100 * v + z) = (VV m v z).toInt) (h9 : q_g u 309 v = 0) : ∃ u', EV (d) 328 132 [.ref 285, .int (q_I (2 * R)), .int (q_I (x2)), .int (q_I (set)), .int (q_I (v)), .int (q_I (0))] [] (q_h L xs (u) O c) = EV (d) 328 207 [.ref 285, .int (q_I (2 * R)), .int (q_I (x2)), .int (q_I (set)), .int (q_I (v)), .int (q_I (2 * R))] [] (q_h L xs (u') O c) ∧ q_g u' 309 v = WR m v Tp R ∧ ∀ k z, ¬ (k = 309 ∧ z = v) → u' k z = u k z := by
  obtain ⟨u', f1, f2, f3⟩ := q_for (fun j (u' : Nat → Int → Int32) => EV (d) 328 132 [.ref 285, .int (q_I (2 * R)), .int (q_I (x2)), .int (q_I (set)), .int (q_I (v)), .int (q_I (2 * j))] [] (q_h L xs (u') O c)) (fun j u' => q_g u' 309 v = q_S (wr m v Tp) 0 j ∧ ∀ k z, ¬ (k = 309 ∧ z = v) → u' k z = u k z) (lo := 0) (hi := R) (by omega) (fun j u' a1 a2 ⟨e9, eu⟩ => by
    have t1 := hT (2 * j) (by omega) (by omega)
    have t2 := hT (2 * j + 1) (by omega) (by omega)
    have g := hg j a1 a2
    unfold gr at g
    have q1 : q_g u' 290 (2 * j) = Tp (2 * j) := by
      show (u' 290 (2 * j)).toInt = _
      rw [eu 290 _ (by omega)]
      exact t1.1
    have q2 : q_g u' 290 (2 * j + 1) = Tp (2 * j + 1) := by
      show (u' 290 (2 * j + 1)).toInt = _
      rw [eu 290 _ (by omega)]
      exact t2.1
    have q3 : q_g u' 308 (100 * v + Tp (2 * j)) = (VV m v (Tp (2 * j))).toInt := by
      show (u' 308 _).toInt = _
      rw [eu 308 _ (by omega)]
      exact hV _ t1.2 g.1
    have rv := q_g_rg u' 308 (100 * v + Tp (2 * j))
    rw [q3] at rv
    have w01 := WR_rg (m := m) (Tp := Tp) (R := j) a1 v
    have e9' : q_g u' 309 v = WR m v Tp j := e9
    refine ⟨q_u u' 309 v (WR m v Tp j + wr m v Tp j), ?_, ?_, fun k z hk => by rw [q_u_n hk, eu k z hk]⟩
    · rw [R_328_132, show 2 * (j + 1) = 2 * j + 2 by omega]
      unfold wr
      by_cases c1 : Tp (2 * j + 1) = 100
      · have e1 : tl1 (Tp (2 * j + 1)) = -1 := if_pos c1
        by_cases c2 : (VV m v (Tp (2 * j))).toInt = tl1 (Tp (2 * j + 1))
        · simp (disch := first | omega | exact q_b_01 _) only [↓reduceIte, q_bk0, q_bk1, q_bk2, q_sg_b, q_b_0, q_b_n0, q_b_1, q_b_n1, q_b_T, q_b_F, q_sg_g, q_sg_sg, q_sg_xs, q_sg_id, q_gu_ne, q_gu_eq, q_g_fne, q_g_cpe, q_w_f, q_v_f, q_u_f, q_fn_f, q_cp_f, q_sg_pg, q_sg_hc, q_lt_t, q_lt_f, q_le_t, q_le_f, q_eq_t, q_eq_f, ne_eq, eq_self, Bool.false_eq_true, Bool.true_eq_false, not_true_eq_false, not_false_eq_true, true_and, and_true, false_and, and_false, true_or, or_true, false_or, or_false, if_true, if_false, Int.reduceAdd, Int.reduceMul, Int.reduceSub, Int.reduceNeg, q1, q2, q3, c2, e9', Int.add_zero, R_328_0, R_328_10, R_328_13, R_328_16, R_328_22, R_328_26, R_328_27, R_328_35, R_328_39, R_328_45, R_328_50, R_328_58, R_328_63, R_328_67, R_328_68, R_328_75, R_328_80, R_328_84, R_328_85, R_328_88, R_328_99, R_328_103, R_328_109, R_328_112, R_328_115, R_328_121, R_328_129, R_328_138, R_328_146, R_328_162, R_328_164, R_328_173, R_328_178, R_328_182, R_328_191, R_328_194, R_328_198, R_328_199, R_328_201, R_328_207, R_328_215, R_328_219, R_328_226, R_328_227, R_328_229, R_328_235, C_328_106, C_328_118]
        · simp (disch := first | omega | exact q_b_01 _) only [↓reduceIte, q_bk0, q_bk1, q_bk2, q_sg_b, q_b_0, q_b_n0, q_b_1, q_b_n1, q_b_T, q_b_F, q_sg_g, q_sg_sg, q_sg_xs, q_sg_id, q_gu_ne, q_gu_eq, q_g_fne, q_g_cpe, q_w_f, q_v_f, q_u_f, q_fn_f, q_cp_f, q_sg_pg, q_sg_hc, q_lt_t, q_lt_f, q_le_t, q_le_f, q_eq_t, q_eq_f, ne_eq, eq_self, Bool.false_eq_true, Bool.true_eq_false, not_true_eq_false, not_false_eq_true, true_and, and_true, false_and, and_false, true_or, or_true, false_or, or_false, if_true, if_false, Int.reduceAdd, Int.reduceMul, Int.reduceSub, Int.reduceNeg, q1, q2, q3, c2, e9', R_328_0, R_328_10, R_328_13, R_328_16, R_328_22, R_328_26, R_328_27, R_328_35, R_328_39, R_328_45, R_328_50, R_328_58, R_328_63, R_328_67, R_328_68, R_328_75, R_328_80, R_328_84, R_328_85, R_328_88, R_328_99, R_328_103, R_328_109, R_328_112, R_328_115, R_328_121, R_328_129, R_328_138, R_328_146, R_328_162, R_328_164, R_328_173, R_328_178, R_328_182, R_328_191, R_328_194, R_328_198, R_328_199, R_328_201, R_328_207, R_328_215, R_328_219, R_328_226, R_328_227, R_328_229, R_328_235, C_328_106, C_328_118]
      · have e1 : tl1 (Tp (2 * j + 1)) = Tp (2 * j + 1) := if_neg c1
        by_cases c2 : (VV m v (Tp (2 * j))).toInt = tl1 (Tp (2 * j + 1))
        · simp (disch := first | omega | exact q_b_01 _) only [↓reduceIte, q_bk0, q_bk1, q_bk2, q_sg_b, q_b_0, q_b_n0, q_b_1, q_b_n1, q_b_T, q_b_F, q_sg_g, q_sg_sg, q_sg_xs, q_sg_id, q_gu_ne, q_gu_eq, q_g_fne, q_g_cpe, q_w_f, q_v_f, q_u_f, q_fn_f, q_cp_f, q_sg_pg, q_sg_hc, q_lt_t, q_lt_f, q_le_t, q_le_f, q_eq_t, q_eq_f, ne_eq, eq_self, Bool.false_eq_true, Bool.true_eq_false, not_true_eq_false, not_false_eq_true, true_and, and_true, false_and, and_false, true_or, or_true, false_or, or_false, if_true, if_false, Int.reduceAdd, Int.reduceMul, Int.reduceSub, Int.reduceNeg, q1, q2, q3, c2, e9', Int.add_zero, R_328_0, R_328_10, R_328_13, R_328_16, R_328_22, R_328_26, R_328_27, R_328_35, R_328_39, R_328_45, R_328_50, R_328_58, R_328_63, R_328_67, R_328_68, R_328_75, R_328_80, R_328_84, R_328_85, R_328_88, R_328_99, R_328_103, R_328_109, R_328_112, R_328_115, R_328_121, R_328_129, R_328_138, R_328_146, R_328_162, R_328_164, R_328_173, R_328_178, R_328_182, R_328_191, R_328_194, R_328_198, R_328_199, R_328_201, R_328_207, R_328_215, R_328_219, R_328_226, R_328_227, R_328_229, R_328_235, C_328_106, C_328_118]
        · simp (disch := first | omega | exact q_b_01 _) only [↓reduceIte, q_bk0, q_bk1, q_bk2, q_sg_b, q_b_0, q_b_n0, q_b_1, q_b_n1, q_b_T, q_b_F, q_sg_g, q_sg_sg, q_sg_xs, q_sg_id, q_gu_ne, q_gu_eq, q_g_fne, q_g_cpe, q_w_f, q_v_f, q_u_f, q_fn_f, q_cp_f, q_sg_pg, q_sg_hc, q_lt_t, q_lt_f, q_le_t, q_le_f, q_eq_t, q_eq_f, ne_eq, eq_self, Bool.false_eq_true, Bool.true_eq_false, not_true_eq_false, not_false_eq_true, true_and, and_true, false_and, and_false, true_or, or_true, false_or, or_false, if_true, if_false, Int.reduceAdd, Int.reduceMul, Int.reduceSub, Int.reduceNeg, q1, q2, q3, c2, e9', R_328_0, R_328_10, R_328_13, R_328_16, R_328_22, R_328_26, R_328_27, R_328_35, R_328_39, R_328_45, R_328_50, R_328_58, R_328_63, R_328_67, R_328_68, R_328_75, R_328_80, R_328_84, R_328_85, R_328_88, R_328_99, R_328_103, R_328_109, R_328_112, R_328_115, R_328_121, R_328_129, R_328_138, R_328_146, R_328_162, R_328_164, R_328_173, R_328_178, R_328_182, R_328_191, R_328_194, R_328_198, R_328_199, R_328_201, R_328_207, R_328_215, R_328_219, R_328_226, R_328_227, R_328_229, R_328_235, C_328_106, C_328_118]
    · have : wr m v Tp j = 0 ∨ wr m v Tp j = 1 := q_b_01 _
      rw [q_gu_eq rfl, q_S_1 _ a1, q_sg_id (by omega) (by omega)]
      rfl) (t := u) ⟨by rw [h9, q_S_0], fun _ _ _ => rfl⟩
  refine ⟨u', ?_, f2, f3⟩
  refine Eq.trans f1 ?_
  rw [R_328_132]
  simp (disch := first | omega | exact q_b_01 _) only [↓reduceIte, q_bk0, q_bk1, q_bk2, q_sg_b, q_b_0, q_b_n0, q_b_1, q_b_n1, q_b_T, q_b_F, q_sg_g, q_sg_sg, q_sg_xs, q_sg_id, q_gu_ne, q_gu_eq, q_g_fne, q_g_cpe, q_w_f, q_v_f, q_u_f, q_fn_f, q_cp_f, q_sg_pg, q_sg_hc, q_lt_t, q_lt_f, q_le_t, q_le_f, q_eq_t, q_eq_f, ne_eq, eq_self, Bool.false_eq_true, Bool.true_eq_false, not_true_eq_false, not_false_eq_true, true_and, and_true, false_and, and_false, true_or, or_true, false_or, or_false, if_true, if_false, Int.reduceAdd, Int.reduceMul, Int.reduceSub, Int.reduceNeg, R_328_0, R_328_10, R_328_13, R_328_16, R_328_22, R_328_26, R_328_27, R_328_35, R_328_39, R_328_45, R_328_50, R_328_58, R_328_63, R_328_67, R_328_68, R_328_75, R_328_80, R_328_84, R_328_85, R_328_88, R_328_99, R_328_103, R_328_109, R_328_112, R_328_115, R_328_121, R_328_129, R_328_138, R_328_146, R_328_162, R_328_164, R_328_173, R_328_178, R_328_182, R_328_191, R_328_194, R_328_198, R_328_199, R_328_201, R_328_215, R_328_219, R_328_226, R_328_227, R_328_229, R_328_235, C_328_106, C_328_118]
theorem mm_hears (em : q_g s 286 = m) (Hv : Vw m) (hN : q_g s 285 8 = N) (n0 : 0 ≤ N) (n1 : N ≤ 400) (hT : ∀ k, 0 ≤ k → k < N → q_g s 290 k = Tp k ∧ 0 ≤ Tp k) : (¬ (N ≤ 40 ∧ N % 2 = 0 ∧ ∀ r, 0 ≤ r → r < N / 2 → gr Tp r) → EV (d + 15) 328 0 [.ref 285, .null, .null, .null, .null, .null] [] (q_h L xs s O c) = some (.inl (some (.int (q_I (0)))), q_h L xs (q_u (q_u s 285 8 0) 285 0 1) O c)) ∧ ((N ≤ 40 ∧ N % 2 = 0 ∧ ∀ r, 0 ≤ r → r < N / 2 → gr Tp r) → ∃ u, EV (d + 15) 328 0 [.ref 285, .null, .null, .null, .null, .null] [] (q_h L xs s O c) = some (.inl (some (.int (q_I (FT m Tp (N / 2))))), q_h L xs (u) O c) ∧ (∀ k z, k ≠ 308 → k ≠ 309 → u k z = q_u (q_u s 285 8 0) 285 0 0 k z) ∧ ∀ v, 0 ≤ v → v < 5 → vo m v = true → q_g u 309 v = WR m v Tp (N / 2) ∧ ∀ z, 0 ≤ z → z < 100 → q_g u 308 (100 * v + z) = (VV m v z).toInt) := by
  have er : q_rm N 2 = N % 2 := by
    unfold q_rm
    rw [q_sg_id (by omega) (by omega), q_sg_id (by omega) (by omega), Int.tmod_eq_emod_of_nonneg n0]
  have hT1 : ∀ k, 0 ≤ k → k < N → q_g (q_u s 285 8 0) 290 k = Tp k ∧ 0 ≤ Tp k := fun k k0 k1 => by
    rw [q_gu_ne (by omega)]
    exact hT k k0 k1
  -- behind the first loop
  have bad : ∀ k, EV (d + 15) 328 75 [.ref 285, .int (q_I (N)), .int (q_I (0)), .int (q_I (k)), .null, .null] [] (q_h L xs (q_u s 285 8 0) O c) = some (.inl (some (.int (q_I (0)))), q_h L xs (q_u (q_u s 285 8 0) 285 0 1) O c) := by
    intro k
    simp (disch := first | omega | exact q_b_01 _) only [↓reduceIte, q_bk0, q_bk1, q_bk2, q_sg_b, q_b_0, q_b_n0, q_b_1, q_b_n1, q_b_T, q_b_F, q_sg_g, q_sg_sg, q_sg_xs, q_sg_id, q_gu_ne, q_gu_eq, q_g_fne, q_g_cpe, q_w_f, q_v_f, q_u_f, q_fn_f, q_cp_f, q_sg_pg, q_sg_hc, q_lt_t, q_lt_f, q_le_t, q_le_f, q_eq_t, q_eq_f, ne_eq, eq_self, Bool.false_eq_true, Bool.true_eq_false, not_true_eq_false, not_false_eq_true, true_and, and_true, false_and, and_false, true_or, or_true, false_or, or_false, if_true, if_false, Int.reduceAdd, Int.reduceMul, Int.reduceSub, Int.reduceNeg, R_328_0, R_328_10, R_328_13, R_328_16, R_328_22, R_328_26, R_328_27, R_328_35, R_328_39, R_328_45, R_328_50, R_328_58, R_328_63, R_328_67, R_328_68, R_328_75, R_328_80, R_328_84, R_328_85, R_328_88, R_328_99, R_328_103, R_328_109, R_328_112, R_328_115, R_328_121, R_328_129, R_328_138, R_328_146, R_328_162, R_328_164, R_328_173, R_328_178, R_328_182, R_328_191, R_328_194, R_328_198, R_328_199, R_328_201, R_328_207, R_328_215, R_328_219, R_328_226, R_328_227, R_328_229, R_328_235, C_328_106, C_328_118]
    rw [R_328_93]
    simp (disch := first | omega | exact q_b_01 _) only [↓reduceIte, q_bk0, q_bk1, q_bk2, q_sg_b, q_b_0, q_b_n0, q_b_1, q_b_n1, q_b_T, q_b_F, q_sg_g, q_sg_sg, q_sg_xs, q_sg_id, q_gu_ne, q_gu_eq, q_g_fne, q_g_cpe, q_w_f, q_v_f, q_u_f, q_fn_f, q_cp_f, q_sg_pg, q_sg_hc, q_lt_t, q_lt_f, q_le_t, q_le_f, q_eq_t, q_eq_f, ne_eq, eq_self, Bool.false_eq_true, Bool.true_eq_false, not_true_eq_false, not_false_eq_true, true_and, and_true, false_and, and_false, true_or, or_true, false_or, or_false, if_true, if_false, Int.reduceAdd, Int.reduceMul, Int.reduceSub, Int.reduceNeg, R_328_0, R_328_10, R_328_13, R_328_16, R_328_22, R_328_26, R_328_27, R_328_35, R_328_39, R_328_45, R_328_50, R_328_58, R_328_63, R_328_67, R_328_68, R_328_75, R_328_80, R_328_84, R_328_85, R_328_88, R_328_99, R_328_103, R_328_109, R_328_112, R_328_115, R_328_121, R_328_129, R_328_138, R_328_146, R_328_162, R_328_164, R_328_173, R_328_178, R_328_182, R_328_191, R_328_194, R_328_198, R_328_199, R_328_201, R_328_207, R_328_215, R_328_219, R_328_226, R_328_227, R_328_229, R_328_235, C_328_106, C_328_118]
  by_cases h1 : N ≤ 40 ∧ N % 2 = 0
  · have key := q_fd (fun j => EV (d + 15) 328 30 [.ref 285, .int (q_I (N)), .int (q_I (1)), .int (q_I (2 * j)), .null, .null] [] (q_h L xs (q_u s 285 8 0) O c)) (fun r => ¬ (Tp (2 * r) < 100 ∧ Tp (2 * r + 1) ≤ 100)) (lo := 0) (hi := N / 2) (by omega) (EV (d + 15) 328 75 [.ref 285, .int (q_I (N)), .int (q_I (1)), .int (q_I (N)), .null, .null] [] (q_h L xs (q_u s 285 8 0) O c)) (fun j => EV (d + 15) 328 75 [.ref 285, .int (q_I (N)), .int (q_I (0)), .int (q_I (2 * j + 2)), .null, .null] [] (q_h L xs (q_u s 285 8 0) O c)) (by
      rw [show 2 * (N / 2) = N by omega, R_328_30]
      simp (disch := first | omega | exact q_b_01 _) only [↓reduceIte, q_bk0, q_bk1, q_bk2, q_sg_b, q_b_0, q_b_n0, q_b_1, q_b_n1, q_b_T, q_b_F, q_sg_g, q_sg_sg, q_sg_xs, q_sg_id, q_gu_ne, q_gu_eq, q_g_fne, q_g_cpe, q_w_f, q_v_f, q_u_f, q_fn_f, q_cp_f, q_sg_pg, q_sg_hc, q_lt_t, q_lt_f, q_le_t, q_le_f, q_eq_t, q_eq_f, ne_eq, eq_self, Bool.false_eq_true, Bool.true_eq_false, not_true_eq_false, not_false_eq_true, true_and, and_true, false_and, and_false, true_or, or_true, false_or, or_false, if_true, if_false, Int.reduceAdd, Int.reduceMul, Int.reduceSub, Int.reduceNeg, R_328_0, R_328_10, R_328_13, R_328_16, R_328_22, R_328_26, R_328_27, R_328_35, R_328_39, R_328_45, R_328_50, R_328_58, R_328_63, R_328_67, R_328_68, R_328_80, R_328_84, R_328_85, R_328_88, R_328_99, R_328_103, R_328_109, R_328_112, R_328_115, R_328_121, R_328_129, R_328_138, R_328_146, R_328_162, R_328_164, R_328_173, R_328_178, R_328_182, R_328_191, R_328_194, R_328_198, R_328_199, R_328_201, R_328_207, R_328_215, R_328_219, R_328_226, R_328_227, R_328_229, R_328_235, C_328_106, C_328_118]) (fun j a1 a2 hj => by
      have t1 := hT1 (2 * j) (by omega) (by omega)
      have t2 := hT1 (2 * j + 1) (by omega) (by omega)
      have r1 := q_g_rg (q_u s 285 8 0) 290 (2 * j)
      have r2 := q_g_rg (q_u s 285 8 0) 290 (2 * j + 1)
      rw [t1.1] at r1
      rw [t2.1] at r2
      rw [R_328_30]
      have fin : EV (d + 15) 328 30 [.ref 285, .int (q_I (N)), .int (q_I (0)), .int (q_I (2 * j + 2)), .null, .null] [] (q_h L xs (q_u s 285 8 0) O c) = EV (d + 15) 328 75 [.ref 285, .int (q_I (N)), .int (q_I (0)), .int (q_I (2 * j + 2)), .null, .null] [] (q_h L xs (q_u s 285 8 0) O c) := by
        rw [R_328_30]
        by_cases c0 : N ≤ 2 * j + 2
        · simp (disch := first | omega | exact q_b_01 _) only [↓reduceIte, q_bk0, q_bk1, q_bk2, q_sg_b, q_b_0, q_b_n0, q_b_1, q_b_n1, q_b_T, q_b_F, q_sg_g, q_sg_sg, q_sg_xs, q_sg_id, q_gu_ne, q_gu_eq, q_g_fne, q_g_cpe, q_w_f, q_v_f, q_u_f, q_fn_f, q_cp_f, q_sg_pg, q_sg_hc, q_lt_t, q_lt_f, q_le_t, q_le_f, q_eq_t, q_eq_f, ne_eq, eq_self, Bool.false_eq_true, Bool.true_eq_false, not_true_eq_false, not_false_eq_true, true_and, and_true, false_and, and_false, true_or, or_true, false_or, or_false, if_true, if_false, Int.reduceAdd, Int.reduceMul, Int.reduceSub, Int.reduceNeg, R_328_0, R_328_10, R_328_13, R_328_16, R_328_22, R_328_26, R_328_27, R_328_35, R_328_39, R_328_45, R_328_50, R_328_58, R_328_63, R_328_67, R_328_68, R_328_80, R_328_84, R_328_85, R_328_88, R_328_99, R_328_103, R_328_109, R_328_112, R_328_115, R_328_121, R_328_129, R_328_138, R_328_146, R_328_162, R_328_164, R_328_173, R_328_178, R_328_182, R_328_191, R_328_194, R_328_198, R_328_199, R_328_201, R_328_207, R_328_215, R_328_219, R_328_226, R_328_227, R_328_229, R_328_235, C_328_106, C_328_118]
        · simp (disch := first | omega | exact q_b_01 _) only [↓reduceIte, q_bk0, q_bk1, q_bk2, q_sg_b, q_b_0, q_b_n0, q_b_1, q_b_n1, q_b_T, q_b_F, q_sg_g, q_sg_sg, q_sg_xs, q_sg_id, q_gu_ne, q_gu_eq, q_g_fne, q_g_cpe, q_w_f, q_v_f, q_u_f, q_fn_f, q_cp_f, q_sg_pg, q_sg_hc, q_lt_t, q_lt_f, q_le_t, q_le_f, q_eq_t, q_eq_f, ne_eq, eq_self, Bool.false_eq_true, Bool.true_eq_false, not_true_eq_false, not_false_eq_true, true_and, and_true, false_and, and_false, true_or, or_true, false_or, or_false, if_true, if_false, Int.reduceAdd, Int.reduceMul, Int.reduceSub, Int.reduceNeg, R_328_0, R_328_10, R_328_13, R_328_16, R_328_22, R_328_26, R_328_27, R_328_35, R_328_39, R_328_45, R_328_50, R_328_58, R_328_63, R_328_67, R_328_68, R_328_80, R_328_84, R_328_85, R_328_88, R_328_99, R_328_103, R_328_109, R_328_112, R_328_115, R_328_121, R_328_129, R_328_138, R_328_146, R_328_162, R_328_164, R_328_173, R_328_178, R_328_182, R_328_191, R_328_194, R_328_198, R_328_199, R_328_201, R_328_207, R_328_215, R_328_219, R_328_226, R_328_227, R_328_229, R_328_235, C_328_106, C_328_118]
      by_cases c1 : Tp (2 * j) < 100
      · simp (disch := first | omega | exact q_b_01 _) only [↓reduceIte, q_bk0, q_bk1, q_bk2, q_sg_b, q_b_0, q_b_n0, q_b_1, q_b_n1, q_b_T, q_b_F, q_sg_g, q_sg_sg, q_sg_xs, q_sg_id, q_gu_ne, q_gu_eq, q_g_fne, q_g_cpe, q_w_f, q_v_f, q_u_f, q_fn_f, q_cp_f, q_sg_pg, q_sg_hc, q_lt_t, q_lt_f, q_le_t, q_le_f, q_eq_t, q_eq_f, ne_eq, eq_self, Bool.false_eq_true, Bool.true_eq_false, not_true_eq_false, not_false_eq_true, true_and, and_true, false_and, and_false, true_or, or_true, false_or, or_false, if_true, if_false, Int.reduceAdd, Int.reduceMul, Int.reduceSub, Int.reduceNeg, t1.1, t2.1, fin, R_328_0, R_328_10, R_328_13, R_328_16, R_328_22, R_328_26, R_328_27, R_328_35, R_328_39, R_328_45, R_328_50, R_328_58, R_328_63, R_328_67, R_328_68, R_328_80, R_328_84, R_328_85, R_328_88, R_328_99, R_328_103, R_328_109, R_328_112, R_328_115, R_328_121, R_328_129, R_328_138, R_328_146, R_328_162, R_328_164, R_328_173, R_328_178, R_328_182, R_328_191, R_328_194, R_328_198, R_328_199, R_328_201, R_328_207, R_328_215, R_328_219, R_328_226, R_328_227, R_328_229, R_328_235, C_328_106, C_328_118]
      · simp (disch := first | omega | exact q_b_01 _) only [↓reduceIte, q_bk0, q_bk1, q_bk2, q_sg_b, q_b_0, q_b_n0, q_b_1, q_b_n1, q_b_T, q_b_F, q_sg_g, q_sg_sg, q_sg_xs, q_sg_id, q_gu_ne, q_gu_eq, q_g_fne, q_g_cpe, q_w_f, q_v_f, q_u_f, q_fn_f, q_cp_f, q_sg_pg, q_sg_hc, q_lt_t, q_lt_f, q_le_t, q_le_f, q_eq_t, q_eq_f, ne_eq, eq_self, Bool.false_eq_true, Bool.true_eq_false, not_true_eq_false, not_false_eq_true, true_and, and_true, false_and, and_false, true_or, or_true, false_or, or_false, if_true, if_false, Int.reduceAdd, Int.reduceMul, Int.reduceSub, Int.reduceNeg, t1.1, t2.1, fin, R_328_0, R_328_10, R_328_13, R_328_16, R_328_22, R_328_26, R_328_27, R_328_35, R_328_39, R_328_45, R_328_50, R_328_58, R_328_63, R_328_67, R_328_68, R_328_80, R_328_84, R_328_85, R_328_88, R_328_99, R_328_103, R_328_109, R_328_112, R_328_115, R_328_121, R_328_129, R_328_138, R_328_146, R_328_162, R_328_164, R_328_173, R_328_178, R_328_182, R_328_191, R_328_194, R_328_198, R_328_199, R_328_201, R_328_207, R_328_215, R_328_219, R_328_226, R_328_227, R_328_229, R_328_235, C_328_106, C_328_118]) (fun j a1 a2 hj => by
      have t1 := hT1 (2 * j) (by omega) (by omega)
      have t2 := hT1 (2 * j + 1) (by omega) (by omega)
      have r1 := q_g_rg (q_u s 285 8 0) 290 (2 * j)
      have r2 := q_g_rg (q_u s 285 8 0) 290 (2 * j + 1)
      rw [t1.1] at r1
      rw [t2.1] at r2
      rw [Decidable.not_not] at hj
      rw [R_328_30, show 2 * (j + 1) = 2 * j + 2 by omega]
      simp (disch := first | omega | exact q_b_01 _) only [↓reduceIte, q_bk0, q_bk1, q_bk2, q_sg_b, q_b_0, q_b_n0, q_b_1, q_b_n1, q_b_T, q_b_F, q_sg_g, q_sg_sg, q_sg_xs, q_sg_id, q_gu_ne, q_gu_eq, q_g_fne, q_g_cpe, q_w_f, q_v_f, q_u_f, q_fn_f, q_cp_f, q_sg_pg, q_sg_hc, q_lt_t, q_lt_f, q_le_t, q_le_f, q_eq_t, q_eq_f, ne_eq, eq_self, Bool.false_eq_true, Bool.true_eq_false, not_true_eq_false, not_false_eq_true, true_and, and_true, false_and, and_false, true_or, or_true, false_or, or_false, if_true, if_false, Int.reduceAdd, Int.reduceMul, Int.reduceSub, Int.reduceNeg, t1.1, t2.1, R_328_0, R_328_10, R_328_13, R_328_16, R_328_22, R_328_26, R_328_27, R_328_35, R_328_39, R_328_45, R_328_50, R_328_58, R_328_63, R_328_67, R_328_68, R_328_80, R_328_84, R_328_85, R_328_88, R_328_99, R_328_103, R_328_109, R_328_112, R_328_115, R_328_121, R_328_129, R_328_138, R_328_146, R_328_162, R_328_164, R_328_173, R_328_178, R_328_182, R_328_191, R_328_194, R_328_198, R_328_199, R_328_201, R_328_207, R_328_215, R_328_219, R_328_226, R_328_227, R_328_229, R_328_235, C_328_106, C_328_118])
    have st : EV (d + 15) 328 0 [.ref 285, .null, .null, .null, .null, .null] [] (q_h L xs s O c) = EV (d + 15) 328 30 [.ref 285, .int (q_I (N)), .int (q_I (1)), .int (q_I (2 * 0)), .null, .null] [] (q_h L xs (q_u s 285 8 0) O c) := by
      simp (disch := first | omega | exact q_b_01 _) only [↓reduceIte, q_bk0, q_bk1, q_bk2, q_sg_b, q_b_0, q_b_n0, q_b_1, q_b_n1, q_b_T, q_b_F, q_sg_g, q_sg_sg, q_sg_xs, q_sg_id, q_gu_ne, q_gu_eq, q_g_fne, q_g_cpe, q_w_f, q_v_f, q_u_f, q_fn_f, q_cp_f, q_sg_pg, q_sg_hc, q_lt_t, q_lt_f, q_le_t, q_le_f, q_eq_t, q_eq_f, ne_eq, eq_self, Bool.false_eq_true, Bool.true_eq_false, not_true_eq_false, not_false_eq_true, true_and, and_true, false_and, and_false, true_or, or_true, false_or, or_false, if_true, if_false, Int.reduceAdd, Int.reduceMul, Int.reduceSub, Int.reduceNeg, hN, er, h1.2, R_328_0, R_328_10, R_328_13, R_328_16, R_328_22, R_328_26, R_328_27, R_328_35, R_328_39, R_328_45, R_328_50, R_328_58, R_328_63, R_328_67, R_328_68, R_328_75, R_328_80, R_328_84, R_328_85, R_328_88, R_328_99, R_328_103, R_328_109, R_328_112, R_328_115, R_328_121, R_328_129, R_328_138, R_328_146, R_328_162, R_328_164, R_328_173, R_328_178, R_328_182, R_328_191, R_328_194, R_328_198, R_328_199, R_328_201, R_328_207, R_328_215, R_328_219, R_328_226, R_328_227, R_328_229, R_328_235, C_328_106, C_328_118]
    rcases key with ⟨j, j0, j1, jr, _, e⟩ | ⟨hall, e⟩
    · refine ⟨fun _ => ?_, fun h => absurd (h.2.2 j j0 j1) jr⟩
      rw [st]
      exact Eq.trans e (bad _)
    · have hg : ∀ r, 0 ≤ r → r < N / 2 → gr Tp r := fun r r0 r1 => (Decidable.not_not (p := Tp (2 * r) < 100 ∧ Tp (2 * r + 1) ≤ 100)).mp (hall r r0 r1)
      refine ⟨fun h => absurd ⟨h1.1, h1.2, hg⟩ h, fun _ => ?_⟩
      obtain ⟨u, f1, f2, f3, f4⟩ := q_for (fun j (u : Int × Value × (Nat → Int → Int32)) => EV (d + 15) 328 93 [.ref 285, .int (q_I (N)), .int (q_I (1)), .int (q_I (u.1)), .int (q_I (j)), u.2.1] [] (q_h L xs (u.2.2) O c)) (fun j u => u.1 = q_it (fun v x => if fb m Tp (N / 2) v = true then q_or x (q_shl 1 v) else x) j.toNat 0 ∧ (∀ k z, k ≠ 308 → k ≠ 309 → u.2.2 k z = q_u (q_u s 285 8 0) 285 0 0 k z) ∧ ∀ v, 0 ≤ v → v < j → vo m v = true → q_g u.2.2 309 v = WR m v Tp (N / 2) ∧ ∀ z, 0 ≤ z → z < 100 → q_g u.2.2 308 (100 * v + z) = (VV m v z).toInt) (lo := 0) (hi := 5) (by omega) (fun j u a1 a2 ⟨g1, g2, g3⟩ => by
        have e286 : q_g u.2.2 286 = m := by
          rw [← em]
          funext z
          show (u.2.2 286 z).toInt = _
          rw [g2 286 z (by omega) (by omega), q_u_n (by omega), q_u_n (by omega)]
          rfl
        by_cases ho : vo m j = true
        · have ea := mm_allValues (d := d) (L := L) (xs := xs) (s := u.2.2) (O := O) (c := c) (by rw [e286]; exact Hv) a1 a2
          rw [e286] at ea
          obtain ⟨u', k1, k2, k3⟩ := mm_hearL (d := d + 15) (L := L) (xs := xs) (O := O) (c := c) (m := m) (Tp := Tp) (R := N / 2) (set := u.1) (x2 := 1) (u := q_u (q_v u.2.2 308 (100 * j) 100 (VV m j)) 309 j 0) a1 a2 (by omega) (by omega) (fun k k0 k1 => by
            rw [q_gu_ne (by omega), q_v_ne (by omega)]
            show (u.2.2 290 k).toInt = _ ∧ _
            rw [g2 290 k (by omega) (by omega), q_u_n (by omega), q_u_n (by omega)]
            exact hT k k0 (by omega)) hg (fun z z0 z1 => by rw [q_gu_ne (by omega), q_v_g _ _ _ z0 z1]) (by rw [q_gu_eq rfl]; rfl)
          rw [show 2 * (N / 2) = N by omega] at k1
          have wr := WR_rg (m := m) (Tp := Tp) (R := N / 2) (by omega) j
          have hvv : ∀ z, 0 ≤ z → z < 100 → q_g u' 308 (100 * j + z) = (VV m j z).toInt := fun z z0 z1 => by
            show (u' 308 _).toInt = _
            rw [k3 308 _ (by omega), q_u_n (by omega)]
            exact q_v_g _ _ _ z0 z1
          have ch : q_I (if fb m Tp (N / 2) j = true then q_or u.1 (q_shl 1 j) else u.1) = q_I (if WR m j Tp (N / 2) ≤ 1 then q_or u.1 (q_shl 1 j) else q_or u.1 0) := by
            unfold fb
            rw [ho]
            by_cases hw : WR m j Tp (N / 2) ≤ 1
            · simp [hw]
            · simp [hw, q_or_0]
          refine ⟨(if fb m Tp (N / 2) j = true then q_or u.1 (q_shl 1 j) else u.1, .int (q_I N), u'), ?_, by rw [q_it_1 _ a1, g1], fun k z h8 h9 => ?_, fun v v0 v1 hv => ?_⟩
          · rw [R_328_93]
            by_cases hw : WR m j Tp (N / 2) ≤ 1
            · rw [if_pos hw] at ch
              simp (disch := first | omega | exact q_b_01 _) only [↓reduceIte, q_bk0, q_bk1, q_bk2, q_sg_b, q_b_0, q_b_n0, q_b_1, q_b_n1, q_b_T, q_b_F, q_sg_g, q_sg_sg, q_sg_xs, q_sg_id, q_gu_ne, q_gu_eq, q_g_fne, q_g_cpe, q_w_f, q_v_f, q_u_f, q_fn_f, q_cp_f, q_sg_pg, q_sg_hc, q_lt_t, q_lt_f, q_le_t, q_le_f, q_eq_t, q_eq_f, ne_eq, eq_self, Bool.false_eq_true, Bool.true_eq_false, not_true_eq_false, not_false_eq_true, true_and, and_true, false_and, and_false, true_or, or_true, false_or, or_false, if_true, if_false, Int.reduceAdd, Int.reduceMul, Int.reduceSub, Int.reduceNeg, R_328_0, R_328_10, R_328_13, R_328_16, R_328_22, R_328_26, R_328_27, R_328_35, R_328_39, R_328_45, R_328_50, R_328_58, R_328_63, R_328_67, R_328_68, R_328_75, R_328_80, R_328_84, R_328_85, R_328_88, R_328_99, R_328_103, R_328_109, R_328_112, R_328_115, R_328_121, R_328_129, R_328_138, R_328_146, R_328_162, R_328_164, R_328_173, R_328_178, R_328_182, R_328_191, R_328_194, R_328_198, R_328_199, R_328_201, R_328_207, R_328_215, R_328_219, R_328_226, R_328_227, R_328_229, R_328_235, C_328_106, C_328_118, mm_isViewV, e286, ho, ea, k1, k2]
              rw [ch]
            · rw [if_neg hw] at ch
              simp (disch := first | omega | exact q_b_01 _) only [↓reduceIte, q_bk0, q_bk1, q_bk2, q_sg_b, q_b_0, q_b_n0, q_b_1, q_b_n1, q_b_T, q_b_F, q_sg_g, q_sg_sg, q_sg_xs, q_sg_id, q_gu_ne, q_gu_eq, q_g_fne, q_g_cpe, q_w_f, q_v_f, q_u_f, q_fn_f, q_cp_f, q_sg_pg, q_sg_hc, q_lt_t, q_lt_f, q_le_t, q_le_f, q_eq_t, q_eq_f, ne_eq, eq_self, Bool.false_eq_true, Bool.true_eq_false, not_true_eq_false, not_false_eq_true, true_and, and_true, false_and, and_false, true_or, or_true, false_or, or_false, if_true, if_false, Int.reduceAdd, Int.reduceMul, Int.reduceSub, Int.reduceNeg, R_328_0, R_328_10, R_328_13, R_328_16, R_328_22, R_328_26, R_328_27, R_328_35, R_328_39, R_328_45, R_328_50, R_328_58, R_328_63, R_328_67, R_328_68, R_328_75, R_328_80, R_328_84, R_328_85, R_328_88, R_328_99, R_328_103, R_328_109, R_328_112, R_328_115, R_328_121, R_328_129, R_328_138, R_328_146, R_328_162, R_328_164, R_328_173, R_328_178, R_328_182, R_328_191, R_328_194, R_328_198, R_328_199, R_328_201, R_328_207, R_328_215, R_328_219, R_328_226, R_328_227, R_328_229, R_328_235, C_328_106, C_328_118, mm_isViewV, e286, ho, ea, k1, k2]
              rw [ch]
          · show u' k z = _
            rw [k3 k z (by omega), q_u_n (by omega)]
            show (q_v u.2.2 308 (100 * j) 100 (VV m j)) k z = _
            unfold q_v
            rw [if_neg (by omega), g2 k z h8 h9]
          · by_cases ev : v = j
            · subst ev
              exact ⟨k2, hvv⟩
            · obtain ⟨p1, p2⟩ := g3 v v0 (by omega) hv
              refine ⟨?_, fun z z0 z1 => ?_⟩
              · show (u' 309 v).toInt = _
                rw [k3 309 v (by omega), q_u_n (by omega)]
                show q_g (q_v u.2.2 308 (100 * j) 100 (VV m j)) 309 v = _
                rw [q_v_ne (by omega)]
                exact p1
              · show (u' 308 _).toInt = _
                rw [k3 308 _ (by omega), q_u_n (by omega)]
                show q_g (q_v u.2.2 308 (100 * j) 100 (VV m j)) 308 _ = _
                rw [q_v_ne (by omega)]
                exact p2 z z0 z1
        · have hf : ¬ fb m Tp (N / 2) j = true := by
            unfold fb
            simp [ho]
          refine ⟨(u.1, u.2.1, u.2.2), ?_, by rw [q_it_1 _ a1, ← g1, if_neg hf], g2, fun v v0 v1 hv => ?_⟩
          · rw [R_328_93]
            simp (disch := first | omega | exact q_b_01 _) only [↓reduceIte, q_bk0, q_bk1, q_bk2, q_sg_b, q_b_0, q_b_n0, q_b_1, q_b_n1, q_b_T, q_b_F, q_sg_g, q_sg_sg, q_sg_xs, q_sg_id, q_gu_ne, q_gu_eq, q_g_fne, q_g_cpe, q_w_f, q_v_f, q_u_f, q_fn_f, q_cp_f, q_sg_pg, q_sg_hc, q_lt_t, q_lt_f, q_le_t, q_le_f, q_eq_t, q_eq_f, ne_eq, eq_self, Bool.false_eq_true, Bool.true_eq_false, not_true_eq_false, not_false_eq_true, true_and, and_true, false_and, and_false, true_or, or_true, false_or, or_false, if_true, if_false, Int.reduceAdd, Int.reduceMul, Int.reduceSub, Int.reduceNeg, R_328_0, R_328_10, R_328_13, R_328_16, R_328_22, R_328_26, R_328_27, R_328_35, R_328_39, R_328_45, R_328_50, R_328_58, R_328_63, R_328_67, R_328_68, R_328_75, R_328_80, R_328_84, R_328_85, R_328_88, R_328_99, R_328_103, R_328_109, R_328_112, R_328_115, R_328_121, R_328_129, R_328_138, R_328_146, R_328_162, R_328_164, R_328_173, R_328_178, R_328_182, R_328_191, R_328_194, R_328_198, R_328_199, R_328_201, R_328_207, R_328_215, R_328_219, R_328_226, R_328_227, R_328_229, R_328_235, C_328_106, C_328_118, mm_isViewV, e286, ho]
          · by_cases ev : v = j
            · subst ev
              exact absurd hv ho
            · exact g3 v v0 (by omega) hv) (t := (0, .null, q_u (q_u s 285 8 0) 285 0 0)) ⟨rfl, fun _ _ _ _ => rfl, fun v v0 v1 => absurd v1 (by omega)⟩
      refine ⟨u.2.2, ?_, f3, f4⟩
      rw [st]
      refine Eq.trans e ?_
      simp (disch := first | omega | exact q_b_01 _) only [↓reduceIte, q_bk0, q_bk1, q_bk2, q_sg_b, q_b_0, q_b_n0, q_b_1, q_b_n1, q_b_T, q_b_F, q_sg_g, q_sg_sg, q_sg_xs, q_sg_id, q_gu_ne, q_gu_eq, q_g_fne, q_g_cpe, q_w_f, q_v_f, q_u_f, q_fn_f, q_cp_f, q_sg_pg, q_sg_hc, q_lt_t, q_lt_f, q_le_t, q_le_f, q_eq_t, q_eq_f, ne_eq, eq_self, Bool.false_eq_true, Bool.true_eq_false, not_true_eq_false, not_false_eq_true, true_and, and_true, false_and, and_false, true_or, or_true, false_or, or_false, if_true, if_false, Int.reduceAdd, Int.reduceMul, Int.reduceSub, Int.reduceNeg, R_328_0, R_328_10, R_328_13, R_328_16, R_328_22, R_328_26, R_328_27, R_328_35, R_328_39, R_328_45, R_328_50, R_328_58, R_328_63, R_328_67, R_328_68, R_328_75, R_328_80, R_328_84, R_328_85, R_328_88, R_328_99, R_328_103, R_328_109, R_328_112, R_328_115, R_328_121, R_328_129, R_328_138, R_328_146, R_328_162, R_328_164, R_328_173, R_328_178, R_328_182, R_328_191, R_328_194, R_328_198, R_328_199, R_328_201, R_328_207, R_328_215, R_328_219, R_328_226, R_328_227, R_328_229, R_328_235, C_328_106, C_328_118]
      refine Eq.trans f1 ?_
      rw [R_328_93, f2]
      simp (disch := first | omega | exact q_b_01 _) only [↓reduceIte, q_bk0, q_bk1, q_bk2, q_sg_b, q_b_0, q_b_n0, q_b_1, q_b_n1, q_b_T, q_b_F, q_sg_g, q_sg_sg, q_sg_xs, q_sg_id, q_gu_ne, q_gu_eq, q_g_fne, q_g_cpe, q_w_f, q_v_f, q_u_f, q_fn_f, q_cp_f, q_sg_pg, q_sg_hc, q_lt_t, q_lt_f, q_le_t, q_le_f, q_eq_t, q_eq_f, ne_eq, eq_self, Bool.false_eq_true, Bool.true_eq_false, not_true_eq_false, not_false_eq_true, true_and, and_true, false_and, and_false, true_or, or_true, false_or, or_false, if_true, if_false, Int.reduceAdd, Int.reduceMul, Int.reduceSub, Int.reduceNeg, R_328_0, R_328_10, R_328_13, R_328_16, R_328_22, R_328_26, R_328_27, R_328_35, R_328_39, R_328_45, R_328_50, R_328_58, R_328_63, R_328_67, R_328_68, R_328_75, R_328_80, R_328_84, R_328_85, R_328_88, R_328_99, R_328_103, R_328_109, R_328_112, R_328_115, R_328_121, R_328_129, R_328_138, R_328_146, R_328_162, R_328_164, R_328_173, R_328_178, R_328_182, R_328_191, R_328_194, R_328_198, R_328_199, R_328_201, R_328_207, R_328_215, R_328_219, R_328_226, R_328_227, R_328_229, R_328_235, C_328_106, C_328_118]
      rfl
  · refine ⟨fun _ => ?_, fun h => absurd ⟨h.1, h.2.1⟩ h1⟩
    have fin : ∀ k, k = 0 → EV (d + 15) 328 30 [.ref 285, .int (q_I (N)), .int (q_I (0)), .int (q_I (k)), .null, .null] [] (q_h L xs (q_u s 285 8 0) O c) = EV (d + 15) 328 75 [.ref 285, .int (q_I (N)), .int (q_I (0)), .int (q_I (k)), .null, .null] [] (q_h L xs (q_u s 285 8 0) O c) := by
      intro k hk
      rw [R_328_30]
      by_cases c0 : N ≤ k
      · simp (disch := first | omega | exact q_b_01 _) only [↓reduceIte, q_bk0, q_bk1, q_bk2, q_sg_b, q_b_0, q_b_n0, q_b_1, q_b_n1, q_b_T, q_b_F, q_sg_g, q_sg_sg, q_sg_xs, q_sg_id, q_gu_ne, q_gu_eq, q_g_fne, q_g_cpe, q_w_f, q_v_f, q_u_f, q_fn_f, q_cp_f, q_sg_pg, q_sg_hc, q_lt_t, q_lt_f, q_le_t, q_le_f, q_eq_t, q_eq_f, ne_eq, eq_self, Bool.false_eq_true, Bool.true_eq_false, not_true_eq_false, not_false_eq_true, true_and, and_true, false_and, and_false, true_or, or_true, false_or, or_false, if_true, if_false, Int.reduceAdd, Int.reduceMul, Int.reduceSub, Int.reduceNeg, R_328_0, R_328_10, R_328_13, R_328_16, R_328_22, R_328_26, R_328_27, R_328_35, R_328_39, R_328_45, R_328_50, R_328_58, R_328_63, R_328_67, R_328_68, R_328_80, R_328_84, R_328_85, R_328_88, R_328_99, R_328_103, R_328_109, R_328_112, R_328_115, R_328_121, R_328_129, R_328_138, R_328_146, R_328_162, R_328_164, R_328_173, R_328_178, R_328_182, R_328_191, R_328_194, R_328_198, R_328_199, R_328_201, R_328_207, R_328_215, R_328_219, R_328_226, R_328_227, R_328_229, R_328_235, C_328_106, C_328_118]
      · simp (disch := first | omega | exact q_b_01 _) only [↓reduceIte, q_bk0, q_bk1, q_bk2, q_sg_b, q_b_0, q_b_n0, q_b_1, q_b_n1, q_b_T, q_b_F, q_sg_g, q_sg_sg, q_sg_xs, q_sg_id, q_gu_ne, q_gu_eq, q_g_fne, q_g_cpe, q_w_f, q_v_f, q_u_f, q_fn_f, q_cp_f, q_sg_pg, q_sg_hc, q_lt_t, q_lt_f, q_le_t, q_le_f, q_eq_t, q_eq_f, ne_eq, eq_self, Bool.false_eq_true, Bool.true_eq_false, not_true_eq_false, not_false_eq_true, true_and, and_true, false_and, and_false, true_or, or_true, false_or, or_false, if_true, if_false, Int.reduceAdd, Int.reduceMul, Int.reduceSub, Int.reduceNeg, R_328_0, R_328_10, R_328_13, R_328_16, R_328_22, R_328_26, R_328_27, R_328_35, R_328_39, R_328_45, R_328_50, R_328_58, R_328_63, R_328_67, R_328_68, R_328_80, R_328_84, R_328_85, R_328_88, R_328_99, R_328_103, R_328_109, R_328_112, R_328_115, R_328_121, R_328_129, R_328_138, R_328_146, R_328_162, R_328_164, R_328_173, R_328_178, R_328_182, R_328_191, R_328_194, R_328_198, R_328_199, R_328_201, R_328_207, R_328_215, R_328_219, R_328_226, R_328_227, R_328_229, R_328_235, C_328_106, C_328_118]
    by_cases h2 : N % 2 = 0
    · simp (disch := first | omega | exact q_b_01 _) only [↓reduceIte, q_bk0, q_bk1, q_bk2, q_sg_b, q_b_0, q_b_n0, q_b_1, q_b_n1, q_b_T, q_b_F, q_sg_g, q_sg_sg, q_sg_xs, q_sg_id, q_gu_ne, q_gu_eq, q_g_fne, q_g_cpe, q_w_f, q_v_f, q_u_f, q_fn_f, q_cp_f, q_sg_pg, q_sg_hc, q_lt_t, q_lt_f, q_le_t, q_le_f, q_eq_t, q_eq_f, ne_eq, eq_self, Bool.false_eq_true, Bool.true_eq_false, not_true_eq_false, not_false_eq_true, true_and, and_true, false_and, and_false, true_or, or_true, false_or, or_false, if_true, if_false, Int.reduceAdd, Int.reduceMul, Int.reduceSub, Int.reduceNeg, hN, er, h2, R_328_0, R_328_10, R_328_13, R_328_16, R_328_22, R_328_26, R_328_27, R_328_35, R_328_39, R_328_45, R_328_50, R_328_58, R_328_63, R_328_67, R_328_68, R_328_75, R_328_80, R_328_84, R_328_85, R_328_88, R_328_99, R_328_103, R_328_109, R_328_112, R_328_115, R_328_121, R_328_129, R_328_138, R_328_146, R_328_162, R_328_164, R_328_173, R_328_178, R_328_182, R_328_191, R_328_194, R_328_198, R_328_199, R_328_201, R_328_207, R_328_215, R_328_219, R_328_226, R_328_227, R_328_229, R_328_235, C_328_106, C_328_118]
      rw [fin 0 rfl]
      exact bad 0
    · simp (disch := first | omega | exact q_b_01 _) only [↓reduceIte, q_bk0, q_bk1, q_bk2, q_sg_b, q_b_0, q_b_n0, q_b_1, q_b_n1, q_b_T, q_b_F, q_sg_g, q_sg_sg, q_sg_xs, q_sg_id, q_gu_ne, q_gu_eq, q_g_fne, q_g_cpe, q_w_f, q_v_f, q_u_f, q_fn_f, q_cp_f, q_sg_pg, q_sg_hc, q_lt_t, q_lt_f, q_le_t, q_le_f, q_eq_t, q_eq_f, ne_eq, eq_self, Bool.false_eq_true, Bool.true_eq_false, not_true_eq_false, not_false_eq_true, true_and, and_true, false_and, and_false, true_or, or_true, false_or, or_false, if_true, if_false, Int.reduceAdd, Int.reduceMul, Int.reduceSub, Int.reduceNeg, hN, er, h2, R_328_0, R_328_10, R_328_13, R_328_16, R_328_22, R_328_26, R_328_27, R_328_35, R_328_39, R_328_45, R_328_50, R_328_58, R_328_63, R_328_67, R_328_68, R_328_75, R_328_80, R_328_84, R_328_85, R_328_88, R_328_99, R_328_103, R_328_109, R_328_112, R_328_115, R_328_121, R_328_129, R_328_138, R_328_146, R_328_162, R_328_164, R_328_173, R_328_178, R_328_182, R_328_191, R_328_194, R_328_198, R_328_199, R_328_201, R_328_207, R_328_215, R_328_219, R_328_226, R_328_227, R_328_229, R_328_235, C_328_106, C_328_118]
      rw [fin 0 rfl]
      exact bad 0
/-- the tape used up -/
theorem Big_used {u : Nat → Int → Int32} (B : Big b s) (h : SmT s u) (h1 : q_g u 285 8 = 0) (h2 : q_g u 2 1 = 0) : Big b u := Big_tape B h ⟨by rw [h1, h2], by rw [h2]; omega, by rw [h2]; omega, fun k k0 k1 => absurd k1 (by rw [h2]; omega)⟩
theorem op_seen (B : Big b s) : Op (Big b) (fun h => EV (d + 40) 23 0 [.ref 1, .ref 312, .null] [] h) (fun h => EV (d + 40) 329 0 [.ref 285, .null] [] h) L xs s O c := by
  have H := B.1.1
  have I := B.1.2.1
  have Hd := inv_hd I
  have Hv := inv_vw I
  have T := B.2.1
  generalize hN : q_g s 2 1 = N at *
  have hT3 : ∀ k, 0 ≤ k → k < N → q_g s 3 k = q_g s 290 k := fun k k0 k1 => (T.2.2.2 k k0 k1).1
  have H1 : RB (q_g s 286) (q_u s 2 1 0) 7 := rb_fr H (fun k a b => by
    funext z
    exact q_u_n (by omega))
  rcases cc_takeRows (d := d + 38) (L := L) (xs := xs) (O := O) (c := c) hN T.2.1 T.2.2.1 hT3 with ⟨h1, h2, h3, e1⟩ | ⟨h1, e1⟩
  · obtain ⟨t, e2, e3, e4⟩ := cc_fitting (d := d + 21) (L := L) (xs := xs) (O := O) (c := c) (Tp := q_g s 290) (R := N / 2) H1 Hd Hv (by omega) (by omega) (fun k k0 k1 => by
      rw [q_gu_ne (by omega), hT3 k k0 (by omega)]
      exact ⟨rfl, (T.2.2.2 k k0 (by omega)).2.1⟩) h3
    have tz : ∀ k z, k < 270 ∨ 284 < k → q_g t k z = q_g (q_u s 2 1 0) k z := fun k z hk => by
      show (t k z).toInt = _
      rw [e4 k hk]
      rfl
    have fr := FT_rg (m := q_g s 286) (Tp := q_g s 290) (R := N / 2)
    obtain ⟨_, hgood⟩ := mm_hears (d := d + 24) (L := L) (xs := xs) (s := t) (O := vp_updL O 0 (q_I (FT (q_g s 286) (q_g s 290) (N / 2))).toInt64) (c := c) (m := q_g s 286) (Tp := q_g s 290) (N := N) (by
      funext z
      rw [tz 286 z (by omega), q_gu_ne (by omega)]) Hv (by rw [tz 285 8 (by omega), q_gu_ne (by omega)]; exact T.1) T.2.1 T.2.2.1 (fun k k0 k1 => by
      rw [tz 290 k (by omega), q_gu_ne (by omega)]
      exact ⟨rfl, (T.2.2.2 k k0 k1).2.1⟩)
    obtain ⟨u, g1, g2, g3⟩ := hgood ⟨h1, h2, h3⟩
    have u0 : q_g u 285 0 = 0 := by
      show (u 285 0).toInt = _
      rw [g2 285 0 (by omega) (by omega)]
      show q_g (q_u (q_u t 285 8 0) 285 0 0) 285 0 = 0
      rw [q_gu_eq rfl]
      rfl
    refine ⟨0, FT (q_g s 286) (q_g s 290) (N / 2), t, u, vp_updL O 0 (q_I (FT (q_g s 286) (q_g s 290) (N / 2))).toInt64, c, ?_, ?_, by omega, by omega, u0, fun _ => rfl, Or.inl rfl, ?_⟩
    · simp (disch := first | omega | exact q_b_01 _) only [↓reduceIte, q_bk0, q_bk1, q_bk2, q_sg_b, q_b_0, q_b_n0, q_b_1, q_b_n1, q_b_T, q_b_F, q_sg_g, q_sg_sg, q_sg_xs, q_sg_id, q_gu_ne, q_gu_eq, q_g_fne, q_g_cpe, q_w_f, q_v_f, q_u_f, q_fn_f, q_cp_f, q_sg_pg, q_sg_hc, q_lt_t, q_lt_f, q_le_t, q_le_f, q_eq_t, q_eq_f, ne_eq, eq_self, Bool.false_eq_true, Bool.true_eq_false, not_true_eq_false, not_false_eq_true, true_and, and_true, false_and, and_false, true_or, or_true, false_or, or_false, if_true, if_false, Int.reduceAdd, Int.reduceMul, Int.reduceSub, Int.reduceNeg, R_23_0, R_23_6, R_23_8, R_23_12, C_23_3, R_165_0, R_165_4, R_165_10, R_165_18, R_165_23, C_165_1, C_165_20, e1, e2, q_lst, K_23_0]
    · simp (disch := first | omega | exact q_b_01 _) only [↓reduceIte, q_bk0, q_bk1, q_bk2, q_sg_b, q_b_0, q_b_n0, q_b_1, q_b_n1, q_b_T, q_b_F, q_sg_g, q_sg_sg, q_sg_xs, q_sg_id, q_gu_ne, q_gu_eq, q_g_fne, q_g_cpe, q_w_f, q_v_f, q_u_f, q_fn_f, q_cp_f, q_sg_pg, q_sg_hc, q_lt_t, q_lt_f, q_le_t, q_le_f, q_eq_t, q_eq_f, ne_eq, eq_self, Bool.false_eq_true, Bool.true_eq_false, not_true_eq_false, not_false_eq_true, true_and, and_true, false_and, and_false, true_or, or_true, false_or, or_false, if_true, if_false, Int.reduceAdd, Int.reduceMul, Int.reduceSub, Int.reduceNeg, u0, R_329_0, R_329_4, R_329_12, R_329_16, R_329_17, C_329_1, g1]
    · refine Big_used B (fun k z hz hn => ?_) ?_ ?_
      · rw [g2 k z (by unfold relz relc at hz; omega) (by unfold relz relc at hz; omega), q_u_n (by unfold relz relc at hz; omega), q_u_n (by omega), e4 k (by unfold relz relc at hz; omega), q_u_n (by omega)]
      · show (u 285 8).toInt = _
        rw [g2 285 8 (by omega) (by omega), q_u_n (by omega)]
        show q_g (q_u t 285 8 0) 285 8 = 0
        rw [q_gu_eq rfl]
        rfl
      · show (u 2 1).toInt = _
        rw [g2 2 1 (by omega) (by omega), q_u_n (by omega), q_u_n (by omega)]
        show q_g t 2 1 = 0
        rw [tz 2 1 (by omega), q_gu_eq rfl]
        rfl
  · obtain ⟨hbad, _⟩ := mm_hears (d := d + 24) (L := L) (xs := xs) (s := q_u s 2 1 0) (O := O) (c := q_th c) (m := q_g s 286) (Tp := q_g s 290) (N := N) (q_u_f (by decide)) Hv (by rw [q_gu_ne (by omega)]; exact T.1) T.2.1 T.2.2.1 (fun k k0 k1 => by
      rw [q_gu_ne (by omega)]
      exact ⟨rfl, (T.2.2.2 k k0 k1).2.1⟩)
    have g1 := hbad h1
    refine ⟨1, 0, q_u s 2 1 0, q_u (q_u (q_u s 2 1 0) 285 8 0) 285 0 1, O, q_th c, ?_, ?_, by omega, by omega, ?_, fun h => absurd h (by omega), Or.inr rfl, ?_⟩
    · simp (disch := first | omega | exact q_b_01 _) only [↓reduceIte, q_bk0, q_bk1, q_bk2, q_sg_b, q_b_0, q_b_n0, q_b_1, q_b_n1, q_b_T, q_b_F, q_sg_g, q_sg_sg, q_sg_xs, q_sg_id, q_gu_ne, q_gu_eq, q_g_fne, q_g_cpe, q_w_f, q_v_f, q_u_f, q_fn_f, q_cp_f, q_sg_pg, q_sg_hc, q_lt_t, q_lt_f, q_le_t, q_le_f, q_eq_t, q_eq_f, ne_eq, eq_self, Bool.false_eq_true, Bool.true_eq_false, not_true_eq_false, not_false_eq_true, true_and, and_true, false_and, and_false, true_or, or_true, false_or, or_false, if_true, if_false, Int.reduceAdd, Int.reduceMul, Int.reduceSub, Int.reduceNeg, R_23_0, R_23_6, R_23_8, R_23_12, C_23_3, R_165_0, R_165_4, R_165_10, R_165_18, R_165_23, C_165_1, C_165_20, e1, K_23_0]
    · simp (disch := first | omega | exact q_b_01 _) only [↓reduceIte, q_bk0, q_bk1, q_bk2, q_sg_b, q_b_0, q_b_n0, q_b_1, q_b_n1, q_b_T, q_b_F, q_sg_g, q_sg_sg, q_sg_xs, q_sg_id, q_gu_ne, q_gu_eq, q_g_fne, q_g_cpe, q_w_f, q_v_f, q_u_f, q_fn_f, q_cp_f, q_sg_pg, q_sg_hc, q_lt_t, q_lt_f, q_le_t, q_le_f, q_eq_t, q_eq_f, ne_eq, eq_self, Bool.false_eq_true, Bool.true_eq_false, not_true_eq_false, not_false_eq_true, true_and, and_true, false_and, and_false, true_or, or_true, false_or, or_false, if_true, if_false, Int.reduceAdd, Int.reduceMul, Int.reduceSub, Int.reduceNeg, R_329_0, R_329_4, R_329_12, R_329_16, R_329_17, C_329_1, g1]
    · rw [q_gu_eq rfl]
      rfl
    · refine Big_used B (SmT_u (SmT_u (SmT_u (fun _ _ _ _ => rfl) (by omega)) (by omega)) (by unfold relz relc; omega)) ?_ ?_
      · rw [q_gu_ne (by omega), q_gu_eq rfl]
        rfl
      · rw [q_gu_ne (by omega), q_gu_ne (by omega), q_gu_eq rfl]
        rfl
end HE
