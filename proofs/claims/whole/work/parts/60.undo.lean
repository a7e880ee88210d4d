/-! CALLS OF BOTH: undo, back -/
section UN
variable {d L : Nat} {xs : Nat → Int32} {s : Nat → Int → Int32} {O : Nat → Int64} {c : Bool × Nat × Nat} {b : Int}
theorem RB_new {m m' : Int → Int} {v u : Nat → Int → Int32} {q' : Nat} (I : Inv m b) (h : ∀ z, 0 ≤ z → z < 1049 → m' z = m z) (H : RB m v q') (hd : 7 + 14 ≤ q' ∨ q' + 14 ≤ 7) (e : ∀ k z, 7 ≤ k → k ≤ 20 → q_g u k z = q_g (cpS v 7 q') k z) : RB m' u 7 := by
  refine RB_cp I h H (fun z z0 z1 => ?_) (fun z z0 z1 => ?_) (fun z z0 z1 => ?_) (fun z z0 z1 => ?_) (fun z z0 z1 => ?_) (fun z z0 z1 => ?_) (fun z hz => ?_)
  · rw [e (7 + 2) z (by omega) (by omega), e (7 + 3) z (by omega) (by omega), e (7 + 4) z (by omega) (by omega), e (7 + 5) z (by omega) (by omega)]
    exact ⟨cpS_2 hd z0 z1, cpS_3 hd z0 z1, cpS_4 hd z0 z1, cpS_5 hd z0 z1⟩
  · rw [e (7 + 6) z (by omega) (by omega), e (7 + 7) z (by omega) (by omega)]
    exact ⟨cpS_6 hd z0 z1, cpS_7 hd z0 z1⟩
  · rw [e (7 + 8) z (by omega) (by omega)]
    exact cpS_8 hd z0 z1
  · rw [e (7 + 9) z (by omega) (by omega), e (7 + 10) z (by omega) (by omega)]
    exact ⟨cpS_9 hd z0 z1, cpS_10 hd z0 z1⟩
  · rw [e (7 + 11) z (by omega) (by omega), e (7 + 12) z (by omega) (by omega)]
    exact ⟨cpS_11 hd z0 z1, cpS_12 hd z0 z1⟩
  · rw [e (7 + 13) z (by omega) (by omega)]
    exact cpS_13 hd z0 z1
  · rw [e 7 z (by omega) (by omega)]
    exact cpS_F hd hz
theorem op_undo (B : Big b s) : Op0 (Big b) (fun h => EV (d + 40) 177 0 [.ref 1] [] h) (fun h => EV (d + 40) 347 0 [.ref 285, .null] [] h) L xs s O c := by
  have B0 := B
  obtain ⟨⟨a1, a2, a3⟩, a4, a5, ⟨h6, A0, A1, n0, n1, hB⟩, a7⟩ := B
  generalize hA : q_g s 71 1 = A at *
  generalize hN : q_g s 71 2 = N at *
  by_cases h : A = 0
  · subst h
    refine ⟨0, s, q_u s 285 0 0, ?_, ?_, Big_sm B0 (Sm_u Sm_rfl (by unfold relz relc; omega))⟩
    · simp (disch := first | omega | exact q_b_01 _) only [↓reduceIte, q_bk0, q_bk1, q_bk2, q_sg_b, q_b_0, q_b_n0, q_b_1, q_b_n1, q_b_T, q_b_F, q_sg_g, q_sg_sg, q_sg_xs, q_sg_id, q_gu_ne, q_gu_eq, q_g_fne, q_g_cpe, q_w_f, q_v_f, q_u_f, q_fn_f, q_cp_f, q_sg_pg, q_sg_hc, q_lt_t, q_lt_f, q_le_t, q_le_f, q_eq_t, q_eq_f, ne_eq, eq_self, Bool.false_eq_true, Bool.true_eq_false, not_true_eq_false, not_false_eq_true, true_and, and_true, false_and, and_false, true_or, or_true, false_or, or_false, if_true, if_false, Int.reduceAdd, Int.reduceMul, Int.reduceSub, Int.reduceNeg, hA, R_177_0, R_177_11, C_177_8, R_66_0, R_66_7, R_66_9, R_66_21, R_66_24, R_66_34, R_66_47, C_66_18, C_66_44]
    · simp (disch := first | omega | exact q_b_01 _) only [↓reduceIte, q_bk0, q_bk1, q_bk2, q_sg_b, q_b_0, q_b_n0, q_b_1, q_b_n1, q_b_T, q_b_F, q_sg_g, q_sg_sg, q_sg_xs, q_sg_id, q_gu_ne, q_gu_eq, q_g_fne, q_g_cpe, q_w_f, q_v_f, q_u_f, q_fn_f, q_cp_f, q_sg_pg, q_sg_hc, q_lt_t, q_lt_f, q_le_t, q_le_f, q_eq_t, q_eq_f, ne_eq, eq_self, Bool.false_eq_true, Bool.true_eq_false, not_true_eq_false, not_false_eq_true, true_and, and_true, false_and, and_false, true_or, or_true, false_or, or_false, if_true, if_false, Int.reduceAdd, Int.reduceMul, Int.reduceSub, Int.reduceNeg, h6, R_347_0, R_347_5, R_347_12, R_347_14, R_347_24, R_347_33, R_347_53, R_347_54, R_347_60]
  · have h7 : isS 7 := Or.inl rfl
    have em0 := Int.emod_nonneg (N - 1) (show (12 : Int) ≠ 0 by omega)
    have em1 := Int.emod_lt_of_pos (N - 1) (show (0 : Int) < 12 by omega)
    have hS := r72_S em0 em1
    have hr : 73 ≤ q_r72 ((N - 1) % 12) ∧ q_r72 ((N - 1) % 12) + 13 ≤ 240 := by unfold q_r72; omega
    obtain ⟨d1, d2, d3, d4⟩ := hB (A - 1) (by omega) (by omega)
    have hx : hst s (A - 1) = q_r72 ((N - 1) % 12) := by
      unfold hst
      rw [hA, hN]
      refine congrArg q_r72 ?_
      omega
    rw [hx] at d1
    obtain ⟨u, e1, e2⟩ := q_for (fun j u => EV (d + 40) 347 26 [.ref 285, .int (q_I (j))] [] (q_h L xs (u) O c)) (fun j u => u = q_fn (q_u (q_u (cpS (q_u (q_u s 71 2 ((N - 1) % 12)) 71 1 (A - 1)) 7 (q_r72 ((N - 1) % 12))) 285 0 0) 285 6 (A - 1)) 286 0 j (blk s (A - 1))) (lo := 0) (hi := 1049) (by omega) (fun j u g1 g2 eu => by
      have q1 : q_g u 285 6 = A - 1 := by rw [eu, q_g_fne (by omega), q_gu_eq rfl, q_sg_id (by omega) (by omega)]
      have q2 : q_g u 289 (1049 * (A - 1) + j) = blk s (A - 1) j := by
        rw [eu, q_g_fne (by omega), q_gu_ne (by omega), q_gu_ne (by omega)]
        show (cpS (q_u (q_u s 71 2 ((N - 1) % 12)) 71 1 (A - 1)) 7 (q_r72 ((N - 1) % 12)) 289 _).toInt = _
        rw [cpS_n (by omega), q_u_n (by omega), q_u_n (by omega)]
        rfl
      refine ⟨_, ?_, rfl⟩
      rw [R_347_26]
      simp (disch := first | omega | exact q_b_01 _) only [↓reduceIte, q_bk0, q_bk1, q_bk2, q_sg_b, q_b_0, q_b_n0, q_b_1, q_b_n1, q_b_T, q_b_F, q_sg_g, q_sg_sg, q_sg_xs, q_sg_id, q_gu_ne, q_gu_eq, q_g_fne, q_g_cpe, q_w_f, q_v_f, q_u_f, q_fn_f, q_cp_f, q_sg_pg, q_sg_hc, q_lt_t, q_lt_f, q_le_t, q_le_f, q_eq_t, q_eq_f, ne_eq, eq_self, Bool.false_eq_true, Bool.true_eq_false, not_true_eq_false, not_false_eq_true, true_and, and_true, false_and, and_false, true_or, or_true, false_or, or_false, if_true, if_false, Int.reduceAdd, Int.reduceMul, Int.reduceSub, Int.reduceNeg, q1, q2, R_347_0, R_347_5, R_347_12, R_347_14, R_347_24, R_347_33, R_347_53, R_347_54, R_347_60]
      rw [eu, q_fn_1 _ 286 (v := blk s (A - 1) j) (blk s (A - 1)) g1 rfl]) (t := q_u (q_u (cpS (q_u (q_u s 71 2 ((N - 1) % 12)) 71 1 (A - 1)) 7 (q_r72 ((N - 1) % 12))) 285 0 0) 285 6 (A - 1)) (by rw [q_fn_0])
    have g6 : q_g (q_u (cpS (q_u (q_u s 71 2 ((N - 1) % 12)) 71 1 (A - 1)) 7 (q_r72 ((N - 1) % 12))) 285 0 0) 285 6 = A := by
      rw [q_gu_ne (by omega)]
      show (cpS (q_u (q_u s 71 2 ((N - 1) % 12)) 71 1 (A - 1)) 7 (q_r72 ((N - 1) % 12)) 285 6).toInt = _
      rw [cpS_n (by omega), q_u_n (by omega), q_u_n (by omega)]
      exact h6
    have g2 : q_g (q_u (q_u s 71 2 ((N - 1) % 12)) 71 1 (A - 1)) 71 2 = (N - 1) % 12 := by rw [q_gu_ne (by omega), q_gu_eq rfl, q_sg_id (by omega) (by omega)]
    refine ⟨1, cpS (q_u (q_u s 71 2 ((N - 1) % 12)) 71 1 (A - 1)) 7 (q_r72 ((N - 1) % 12)), u, ?_, ?_, ?_⟩
    · simp (disch := first | omega | exact q_b_01 _) only [↓reduceIte, q_bk0, q_bk1, q_bk2, q_sg_b, q_b_0, q_b_n0, q_b_1, q_b_n1, q_b_T, q_b_F, q_sg_g, q_sg_sg, q_sg_xs, q_sg_id, q_gu_ne, q_gu_eq, q_g_fne, q_g_cpe, q_w_f, q_v_f, q_u_f, q_fn_f, q_cp_f, q_sg_pg, q_sg_hc, q_lt_t, q_lt_f, q_le_t, q_le_f, q_eq_t, q_eq_f, ne_eq, eq_self, Bool.false_eq_true, Bool.true_eq_false, not_true_eq_false, not_false_eq_true, true_and, and_true, false_and, and_false, true_or, or_true, false_or, or_false, if_true, if_false, Int.reduceAdd, Int.reduceMul, Int.reduceSub, Int.reduceNeg, hA, hN, R_177_0, R_177_11, C_177_8, R_66_0, R_66_7, R_66_9, R_66_21, R_66_24, R_66_34, R_66_47, C_66_18, C_66_44, jj_floorMod, st_rs hS, cc_copyFrom h7 hS]
    · simp (disch := first | omega | exact q_b_01 _) only [↓reduceIte, q_bk0, q_bk1, q_bk2, q_sg_b, q_b_0, q_b_n0, q_b_1, q_b_n1, q_b_T, q_b_F, q_sg_g, q_sg_sg, q_sg_xs, q_sg_id, q_gu_ne, q_gu_eq, q_g_fne, q_g_cpe, q_w_f, q_v_f, q_u_f, q_fn_f, q_cp_f, q_sg_pg, q_sg_hc, q_lt_t, q_lt_f, q_le_t, q_le_f, q_eq_t, q_eq_f, ne_eq, eq_self, Bool.false_eq_true, Bool.true_eq_false, not_true_eq_false, not_false_eq_true, true_and, and_true, false_and, and_false, true_or, or_true, false_or, or_false, if_true, if_false, Int.reduceAdd, Int.reduceMul, Int.reduceSub, Int.reduceNeg, g6, R_347_0, R_347_5, R_347_12, R_347_14, R_347_24, R_347_33, R_347_53, R_347_54, R_347_60]
      refine Eq.trans e1 ?_
      rw [R_347_26]
      simp (disch := first | omega | exact q_b_01 _) only [↓reduceIte, q_bk0, q_bk1, q_bk2, q_sg_b, q_b_0, q_b_n0, q_b_1, q_b_n1, q_b_T, q_b_F, q_sg_g, q_sg_sg, q_sg_xs, q_sg_id, q_gu_ne, q_gu_eq, q_g_fne, q_g_cpe, q_w_f, q_v_f, q_u_f, q_fn_f, q_cp_f, q_sg_pg, q_sg_hc, q_lt_t, q_lt_f, q_le_t, q_le_f, q_eq_t, q_eq_f, ne_eq, eq_self, Bool.false_eq_true, Bool.true_eq_false, not_true_eq_false, not_false_eq_true, true_and, and_true, false_and, and_false, true_or, or_true, false_or, or_false, if_true, if_false, Int.reduceAdd, Int.reduceMul, Int.reduceSub, Int.reduceNeg, R_347_0, R_347_5, R_347_12, R_347_14, R_347_24, R_347_33, R_347_53, R_347_54, R_347_60]
    · have uN : ∀ k z, ¬ (7 ≤ k ∧ k ≤ 20) → ¬ (k = 71 ∧ (z = 1 ∨ z = 2)) → ¬ (k = 285 ∧ (z = 0 ∨ z = 6)) → k ≠ 286 → u k z = s k z := fun k z c1 c2 c3 c4 => by
        rw [e2, q_fn_n (by omega), q_u_n (by omega), q_u_n (by omega), cpS_n (by omega), q_u_n (by omega), q_u_n (by omega)]
      have uG : ∀ k z, ¬ (7 ≤ k ∧ k ≤ 20) → ¬ (k = 71 ∧ (z = 1 ∨ z = 2)) → ¬ (k = 285 ∧ (z = 0 ∨ z = 6)) → k ≠ 286 → q_g u k z = q_g s k z := fun k z c1 c2 c3 c4 => by
        show (u k z).toInt = _
        rw [uN k z c1 c2 c3 c4]
        rfl
      have uF : ∀ k, ¬ (7 ≤ k ∧ k ≤ 20) → k ≠ 71 → k ≠ 285 → k ≠ 286 → q_g u k = q_g s k := fun k c1 c2 c3 c4 => funext fun z => uG k z c1 (by omega) (by omega) c4
      have u286 : ∀ z, 0 ≤ z → z < 1049 → q_g u 286 z = blk s (A - 1) z := fun z z0 z1 => by
        rw [e2, q_g_fn, if_pos ⟨rfl, z0, z1⟩]
        exact q_sg_g s 289 _
      have u286' : ∀ z, 1049 ≤ z → q_g u 286 z = q_g s 286 z := fun z z0 => by
        rw [e2, q_g_fne (by omega), q_gu_ne (by omega), q_gu_ne (by omega)]
        show (cpS (q_u (q_u s 71 2 ((N - 1) % 12)) 71 1 (A - 1)) 7 (q_r72 ((N - 1) % 12)) 286 z).toInt = _
        rw [cpS_n (by omega), q_u_n (by omega), q_u_n (by omega)]
        rfl
      have u6 : q_g u 285 6 = A - 1 := by rw [e2, q_g_fne (by omega), q_gu_eq rfl, q_sg_id (by omega) (by omega)]
      have u71 : q_g u 71 1 = A - 1 ∧ q_g u 71 2 = (N - 1) % 12 := by
        have : ∀ z, q_g u 71 z = q_g (q_u (q_u s 71 2 ((N - 1) % 12)) 71 1 (A - 1)) 71 z := fun z => by
          rw [e2, q_g_fne (by omega), q_gu_ne (by omega), q_gu_ne (by omega)]
          show (cpS (q_u (q_u s 71 2 ((N - 1) % 12)) 71 1 (A - 1)) 7 (q_r72 ((N - 1) % 12)) 71 z).toInt = _
          rw [cpS_n (by omega)]
          rfl
        rw [this, this, q_gu_eq rfl, q_gu_ne (by omega), q_gu_eq rfl, q_sg_id (by omega) (by omega), q_sg_id (by omega) (by omega)]
        exact ⟨rfl, rfl⟩
      have m1 : q_g u 286 1 = q_g s 286 1 := by rw [u286 1 (by omega) (by omega), d3]
      have m2 : q_g u 286 2 = q_g s 286 2 := by rw [u286 2 (by omega) (by omega), d4]
      have fb : blk u = blk s := by
        funext j z
        exact uG 289 _ (by omega) (by omega) (by omega) (by omega)
      have fh : ∀ j, hst u j = hst s j := by
        intro j
        unfold hst
        rw [u71.1, u71.2, hA, hN]
        refine congrArg q_r72 ?_
        omega
      have dv : RB (blk s (A - 1)) (q_u (q_u s 71 2 ((N - 1) % 12)) 71 1 (A - 1)) (q_r72 ((N - 1) % 12)) := rb_sm d1 (fun k k0 k1 => by rw [q_u_f (by omega), q_u_f (by omega)])
      refine ⟨⟨RB_new d2 u286 dv (by omega) (fun k z k0 k1 => by rw [e2, q_g_fne (by omega), q_gu_ne (by omega), q_gu_ne (by omega)]), Inv_ext u286 d2, ?_⟩, ?_, ?_, ?_, ?_⟩
      · rw [uF 49 (by omega) (by omega) (by omega) (by omega), uF 50 (by omega) (by omega) (by omega) (by omega), uF 51 (by omega) (by omega) (by omega) (by omega), uF 52 (by omega) (by omega) (by omega) (by omega), uF 53 (by omega) (by omega) (by omega) (by omega)]
        refine LawP_ext a3 (fun z hz => ?_)
        rcases hz with e | e | e
        · rw [e, m1]
        · rw [e, m2]
        · exact u286' z e
      · rw [uG 285 8 (by omega) (by omega) (by omega) (by omega), uF 2 (by omega) (by omega) (by omega) (by omega), uF 3 (by omega) (by omega) (by omega) (by omega), uF 290 (by omega) (by omega) (by omega) (by omega)]
        exact a4
      · rw [uG 285 12 (by omega) (by omega) (by omega) (by omega), uF 2 (by omega) (by omega) (by omega) (by omega)]
        exact a5
      · rw [u6, u71.1, u71.2, m1, m2, fb]
        refine ⟨rfl, by omega, by omega, by omega, by omega, fun j h1 h2 => ?_⟩
        obtain ⟨f1, f2, f3, f4⟩ := hB j h1 (by omega)
        have := hst_rg s j
        rw [fh]
        exact ⟨rb_sm f1 (fun k h1 h2 => uF k (by omega) (by omega) (by omega) (by omega)), f2, f3, f4⟩
      · rw [uG 285 3 (by omega) (by omega) (by omega) (by omega), uF 1 (by omega) (by omega) (by omega) (by omega), uF 287 (by omega) (by omega) (by omega) (by omega), uF 61 (by omega) (by omega) (by omega) (by omega), uF 62 (by omega) (by omega) (by omega) (by omega), uF 63 (by omega) (by omega) (by omega) (by omega), uF 64 (by omega) (by omega) (by omega) (by omega), uF 65 (by omega) (by omega) (by omega) (by omega)]
        refine ⟨a7.1, a7.2.1, fun x => ?_⟩
        obtain ⟨f1, f2, f3⟩ := a7.2.2 x
        exact ⟨rb_sm f1 (fun k h1 h2 => uF k (by omega) (by omega) (by omega) (by omega)), f2, f3⟩
theorem op_back (B : Big b s) : Op0 (Big b) (fun h => EV (d + 40) 179 0 [.ref 1] [] h) (fun h => EV (d + 40) 349 0 [.ref 285, .null] [] h) L xs s O c := by
  have B0 := B
  obtain ⟨⟨a1, a2, a3⟩, a4, a5, ⟨h6, A0, A1, n0, n1, hB⟩, a7⟩ := B
  rcases a7.2.1 with h | h
  · refine ⟨0, s, q_u s 285 0 0, ?_, ?_, Big_sm B0 (Sm_u Sm_rfl (by unfold relz relc; omega))⟩
    · simp (disch := first | omega | exact q_b_01 _) only [↓reduceIte, q_bk0, q_bk1, q_bk2, q_sg_b, q_b_0, q_b_n0, q_b_1, q_b_n1, q_b_T, q_b_F, q_sg_g, q_sg_sg, q_sg_xs, q_sg_id, q_gu_ne, q_gu_eq, q_g_fne, q_g_cpe, q_w_f, q_v_f, q_u_f, q_fn_f, q_cp_f, q_sg_pg, q_sg_hc, q_lt_t, q_lt_f, q_le_t, q_le_f, q_eq_t, q_eq_f, ne_eq, eq_self, Bool.false_eq_true, Bool.true_eq_false, not_true_eq_false, not_false_eq_true, true_and, and_true, false_and, and_false, true_or, or_true, false_or, or_false, if_true, if_false, Int.reduceAdd, Int.reduceMul, Int.reduceSub, Int.reduceNeg, h, R_179_0, R_179_7, R_179_9, R_179_20, R_179_31, R_179_38, C_179_17, C_179_28, C_179_35]
    · simp (disch := first | omega | exact q_b_01 _) only [↓reduceIte, q_bk0, q_bk1, q_bk2, q_sg_b, q_b_0, q_b_n0, q_b_1, q_b_n1, q_b_T, q_b_F, q_sg_g, q_sg_sg, q_sg_xs, q_sg_id, q_gu_ne, q_gu_eq, q_g_fne, q_g_cpe, q_w_f, q_v_f, q_u_f, q_fn_f, q_cp_f, q_sg_pg, q_sg_hc, q_lt_t, q_lt_f, q_le_t, q_le_f, q_eq_t, q_eq_f, ne_eq, eq_self, Bool.false_eq_true, Bool.true_eq_false, not_true_eq_false, not_false_eq_true, true_and, and_true, false_and, and_false, true_or, or_true, false_or, or_false, if_true, if_false, Int.reduceAdd, Int.reduceMul, Int.reduceSub, Int.reduceNeg, a7.1, h, R_349_0, R_349_5, R_349_12, R_349_14, R_349_23, R_349_34, R_349_35, R_349_41, R_349_46]
  · have h7 : isS 7 := Or.inl rfl
    have h35 : isS 35 := Or.inr (Or.inr (Or.inl rfl))
    have h61 : isL 61 := Or.inr (Or.inr rfl)
    have h49 : isL 49 := Or.inl rfl
    obtain ⟨d1, d2, d3⟩ := a7.2.2 h
    obtain ⟨u, e1, e2⟩ := q_for (fun j u => EV (d + 40) 349 16 [.ref 285, .int (q_I (j))] [] (q_h L xs (u) O c)) (fun j u => u = q_fn (q_u (q_u (cpL (cpS s 7 35) 49 61) 71 1 0) 285 0 0) 286 0 j (q_g s 287)) (lo := 0) (hi := 1449) (by omega) (fun j u g1 g2 eu => by
      have q2 : q_g u 287 j = q_g s 287 j := by
        rw [eu, q_g_fne (by omega), q_gu_ne (by omega), q_gu_ne (by omega)]
        show (cpL (cpS s 7 35) 49 61 287 j).toInt = _
        rw [cpL_n (by omega), cpS_n (by omega)]
        rfl
      refine ⟨_, ?_, rfl⟩
      rw [R_349_16]
      simp (disch := first | omega | exact q_b_01 _) only [↓reduceIte, q_bk0, q_bk1, q_bk2, q_sg_b, q_b_0, q_b_n0, q_b_1, q_b_n1, q_b_T, q_b_F, q_sg_g, q_sg_sg, q_sg_xs, q_sg_id, q_gu_ne, q_gu_eq, q_g_fne, q_g_cpe, q_w_f, q_v_f, q_u_f, q_fn_f, q_cp_f, q_sg_pg, q_sg_hc, q_lt_t, q_lt_f, q_le_t, q_le_f, q_eq_t, q_eq_f, ne_eq, eq_self, Bool.false_eq_true, Bool.true_eq_false, not_true_eq_false, not_false_eq_true, true_and, and_true, false_and, and_false, true_or, or_true, false_or, or_false, if_true, if_false, Int.reduceAdd, Int.reduceMul, Int.reduceSub, Int.reduceNeg, q2, R_349_0, R_349_5, R_349_12, R_349_14, R_349_23, R_349_34, R_349_35, R_349_41, R_349_46]
      rw [eu, q_fn_1 _ 286 (v := q_g s 287 j) (q_g s 287) g1 rfl]) (t := q_u (q_u (cpL (cpS s 7 35) 49 61) 71 1 0) 285 0 0) (by rw [q_fn_0])
    have g3 : q_g (q_u (q_u (cpL (cpS s 7 35) 49 61) 71 1 0) 285 0 0) 285 3 = 1 := by
      rw [q_gu_ne (by omega), q_gu_ne (by omega)]
      show (cpL (cpS s 7 35) 49 61 285 3).toInt = _
      rw [cpL_n (by omega), cpS_n (by omega)]
      exact a7.1.trans h
    refine ⟨1, q_u (cpL (cpS s 7 35) 49 61) 71 1 0, q_u u 285 6 0, ?_, ?_, ?_⟩
    · simp (disch := first | omega | exact q_b_01 _) only [↓reduceIte, q_bk0, q_bk1, q_bk2, q_sg_b, q_b_0, q_b_n0, q_b_1, q_b_n1, q_b_T, q_b_F, q_sg_g, q_sg_sg, q_sg_xs, q_sg_id, q_gu_ne, q_gu_eq, q_g_fne, q_g_cpe, q_w_f, q_v_f, q_u_f, q_fn_f, q_cp_f, q_sg_pg, q_sg_hc, q_lt_t, q_lt_f, q_le_t, q_le_f, q_eq_t, q_eq_f, ne_eq, eq_self, Bool.false_eq_true, Bool.true_eq_false, not_true_eq_false, not_false_eq_true, true_and, and_true, false_and, and_false, true_or, or_true, false_or, or_false, if_true, if_false, Int.reduceAdd, Int.reduceMul, Int.reduceSub, Int.reduceNeg, h, R_179_0, R_179_7, R_179_9, R_179_20, R_179_31, R_179_38, C_179_17, C_179_28, C_179_35, cc_copyFrom h7 h35, cc_copyL h49 h61, R_64_0, R_64_5]
    · simp (disch := first | omega | exact q_b_01 _) only [↓reduceIte, q_bk0, q_bk1, q_bk2, q_sg_b, q_b_0, q_b_n0, q_b_1, q_b_n1, q_b_T, q_b_F, q_sg_g, q_sg_sg, q_sg_xs, q_sg_id, q_gu_ne, q_gu_eq, q_g_fne, q_g_cpe, q_w_f, q_v_f, q_u_f, q_fn_f, q_cp_f, q_sg_pg, q_sg_hc, q_lt_t, q_lt_f, q_le_t, q_le_f, q_eq_t, q_eq_f, ne_eq, eq_self, Bool.false_eq_true, Bool.true_eq_false, not_true_eq_false, not_false_eq_true, true_and, and_true, false_and, and_false, true_or, or_true, false_or, or_false, if_true, if_false, Int.reduceAdd, Int.reduceMul, Int.reduceSub, Int.reduceNeg, g3, R_349_0, R_349_5, R_349_12, R_349_14, R_349_23, R_349_34, R_349_35, R_349_41, R_349_46]
      refine Eq.trans e1 ?_
      rw [R_349_16]
      simp (disch := first | omega | exact q_b_01 _) only [↓reduceIte, q_bk0, q_bk1, q_bk2, q_sg_b, q_b_0, q_b_n0, q_b_1, q_b_n1, q_b_T, q_b_F, q_sg_g, q_sg_sg, q_sg_xs, q_sg_id, q_gu_ne, q_gu_eq, q_g_fne, q_g_cpe, q_w_f, q_v_f, q_u_f, q_fn_f, q_cp_f, q_sg_pg, q_sg_hc, q_lt_t, q_lt_f, q_le_t, q_le_f, q_eq_t, q_eq_f, ne_eq, eq_self, Bool.false_eq_true, Bool.true_eq_false, not_true_eq_false, not_false_eq_true, true_and, and_true, false_and, and_false, true_or, or_true, false_or, or_false, if_true, if_false, Int.reduceAdd, Int.reduceMul, Int.reduceSub, Int.reduceNeg, R_349_0, R_349_5, R_349_12, R_349_14, R_349_23, R_349_34, R_349_35, R_349_41, R_349_46]
    · have u286 : ∀ z, 0 ≤ z → z < 1449 → q_g (q_u u 285 6 0) 286 z = q_g s 287 z := fun z z0 z1 => by
        rw [q_gu_ne (by omega), e2, q_g_fn, if_pos ⟨rfl, z0, z1⟩, q_sg_g]
      have c7 : ∀ k z, 7 ≤ k → k ≤ 20 → q_g (q_u u 285 6 0) k z = q_g (cpS s 7 35) k z := fun k z k0 k1 => by
        rw [q_gu_ne (by omega), e2, q_g_fne (by omega), q_gu_ne (by omega), q_gu_ne (by omega)]
        show (cpL (cpS s 7 35) 49 61 k z).toInt = _
        rw [cpL_n (by omega)]
        rfl
      have c49 : ∀ k z, 49 ≤ k → k ≤ 53 → q_g (q_u u 285 6 0) k z = q_g (cpL (cpS s 7 35) 49 61) k z := fun k z k0 k1 => by
        rw [q_gu_ne (by omega), e2, q_g_fne (by omega), q_gu_ne (by omega), q_gu_ne (by omega)]
      have l61 : ∀ k z, 61 ≤ k → k ≤ 65 → q_g (cpS s 7 35) k z = q_g s k z := fun k z k0 k1 => by
        show (cpS s 7 35 k z).toInt = _
        rw [cpS_n (by omega)]
        rfl
      have hdl : 49 + 5 ≤ 61 ∨ 61 + 5 ≤ 49 := by omega
      refine Big_clr B0 (Int.le_refl _) (fun k z c1 c2 c3 c4 c5 c6 => ?_) ?_ ?_ (LawP_cp d3 (fun z hz => u286 z (by omega) (by omega)) ?_ ?_ (fun z z0 z1 => ?_) (fun z z0 z1 => ?_)) (RB_new d2 (fun z z0 z1 => u286 z z0 (by omega)) d1 (by omega) c7) (Inv_ext (fun z z0 z1 => u286 z z0 (by omega)) d2)
      · rw [q_u_n (by omega), e2, q_fn_n (by omega), q_u_n (by unfold relz relc at c1; omega), q_u_n (by omega), cpL_n (by omega), cpS_n (by omega)]
      · rw [q_gu_ne (by omega), e2, q_g_fne (by omega), q_gu_ne (by omega), q_gu_eq rfl]
        rfl
      · rw [q_gu_eq rfl]
        rfl
      · rw [c49 49 0 (by omega) (by omega), cpL_F hdl (by omega), l61 61 0 (by omega) (by omega)]
      · rw [c49 49 5 (by omega) (by omega), cpL_F hdl (by omega), l61 61 5 (by omega) (by omega)]
      · rw [c49 50 z (by omega) (by omega), c49 51 z (by omega) (by omega), c49 52 z (by omega) (by omega)]
        exact ⟨(cpL_1 hdl z0 z1).trans (l61 62 z (by omega) (by omega)), (cpL_2 hdl z0 z1).trans (l61 63 z (by omega) (by omega)), (cpL_3 hdl z0 z1).trans (l61 64 z (by omega) (by omega))⟩
      · rw [c49 53 z (by omega) (by omega)]
        exact (cpL_4 hdl z0 z1).trans (l61 65 z (by omega) (by omega))
end UN
