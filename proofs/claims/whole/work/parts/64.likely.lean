/-! CALLS OF BOTH: likely, look -/
def lkf (m Tp : Int → Int) (R v t : Int) : Int := if fb m Tp R v = true ∧ (t = -1 ∨ WR m v Tp R < WR m t Tp R) then v else t
section LK
variable {d L : Nat} {xs : Nat → Int32} {s t : Nat → Int → Int32} {O : Nat → Int64} {c : Bool × Nat × Nat} {b : Int} {m : Int → Int} {Tp : Int → Int} {R N : Int}
theorem fb_vo {v : Int} (h : fb m Tp R v = true) : vo m v = true ∧ WR m v Tp R ≤ 1 := by
  unfold fb at h
  rw [Bool.and_eq_true, decide_eq_true_iff] at h
  exact h
theorem op_likely (B : Big b s) : Op (Big b) (fun h => EV (d + 40) 24 0 [.ref 1, .ref 312, .null] [] h) (fun h => EV (d + 40) 330 0 [.ref 285, .null, .null, .null] [] h) L xs s O c := by
  have H := B.1.1
  have I := B.1.2.1
  have Hd := inv_hd I
  have Hv := inv_vw I
  have T := B.2.1
  generalize hN : q_g s 2 1 = N at *
  have hT3 : ∀ k, 0 ≤ k → k < N → q_g s 3 k = q_g s 290 k := fun k k0 k1 => (T.2.2.2 k k0 k1).1
  have H1 : RB (q_g s 286) (q_u s 2 1 0) 7 := rb_fr H (fun k a b => by
    funext z
    exact q_u_n (by omega))
  rcases cc_takeRows (d := d + 38) (L := L) (xs := xs) (O := O) (c := c) hN T.2.1 T.2.2.1 hT3 with ⟨h1, h2, h3, e1⟩ | ⟨h1, e1⟩
  · obtain ⟨t, e2, e3, e4⟩ := cc_fitting (d := d + 21) (L := L) (xs := xs) (O := O) (c := c) (Tp := q_g s 290) (R := N / 2) H1 Hd Hv (by omega) (by omega) (fun k k0 k1 => by
      rw [q_gu_ne (by omega), hT3 k k0 (by omega)]
      exact ⟨rfl, (T.2.2.2 k k0 (by omega)).2.1⟩) h3
    have tz : ∀ k z, k < 270 ∨ 284 < k → q_g t k z = q_g (q_u s 2 1 0) k z := fun k z hk => by
      show (t k z).toInt = _
      rw [e4 k hk]
      rfl
    have hT4 : ∀ k, 0 ≤ k → k < 2 * (N / 2) → q_g t 3 k = q_g s 290 k ∧ 0 ≤ q_g s 290 k := fun k k0 k1 => by
      rw [tz 3 k (by omega), q_gu_ne (by omega), hT3 k k0 (by omega)]
      exact ⟨rfl, (T.2.2.2 k k0 (by omega)).2.1⟩
    have fr := FT_rg (m := q_g s 286) (Tp := q_g s 290) (R := N / 2)
    have fs : q_sg (FT (q_g s 286) (q_g s 290) (N / 2)) = FT (q_g s 286) (q_g s 290) (N / 2) := q_sg_id (by omega) (by omega)
    have g0 := q_itl (fun j x => EV (d + 39) 166 32 [.ref 1, .int (q_I (N / 2)), .int (q_I (FT (q_g s 286) (q_g s 290) (N / 2))), .int (q_I (x)), .int (q_I ((if x = -1 then 2 else WR (q_g s 286) x (q_g s 290) (N / 2)))), .int (q_I (j))] [] (q_h L xs (t) O c)) (lkf (q_g s 286) (q_g s 290) (N / 2)) (fun j x => x = -1 ∨ 0 ≤ x ∧ x < 5 ∧ fb (q_g s 286) (q_g s 290) (N / 2) x = true) (hi := 5) (by omega) (fun j x a1 a2 hx => by
      have ew := cc_wrongRows (d := d + 37) (L := L) (xs := xs) (O := O) (c := c) a1 a2 (e3 j a1 a2) (by omega) (by omega) hT4 h3
      have wr := WR_rg (m := q_g s 286) (Tp := q_g s 290) (R := N / 2) (by omega) j
      have wx := WR_rg (m := q_g s 286) (Tp := q_g s 290) (R := N / 2) (by omega) x
      refine ⟨?_, ?_⟩
      · rw [R_166_32]
        unfold lkf
        by_cases hf : fb (q_g s 286) (q_g s 290) (N / 2) j = true
        · have := (fb_vo hf).2
          by_cases ex : x = -1
          · simp (disch := first | omega | exact q_b_01 _) only [↓reduceIte, q_bk0, q_bk1, q_bk2, q_sg_b, q_b_0, q_b_n0, q_b_1, q_b_n1, q_b_T, q_b_F, q_sg_g, q_sg_sg, q_sg_xs, q_sg_id, q_gu_ne, q_gu_eq, q_g_fne, q_g_cpe, q_w_f, q_v_f, q_u_f, q_fn_f, q_cp_f, q_sg_pg, q_sg_hc, q_lt_t, q_lt_f, q_le_t, q_le_f, q_eq_t, q_eq_f, ne_eq, eq_self, Bool.false_eq_true, Bool.true_eq_false, not_true_eq_false, not_false_eq_true, true_and, and_true, false_and, and_false, true_or, or_true, false_or, or_false, if_true, if_false, Int.reduceAdd, Int.reduceMul, Int.reduceSub, Int.reduceNeg, fs, hf, ex, R_166_0, R_166_4, R_166_10, R_166_18, R_166_23, R_166_38, R_166_44, R_166_47, R_166_54, R_166_59, R_166_69, R_166_71, R_166_77, C_166_1, C_166_20, C_166_41, C_166_51, C_166_66, cc_hasBit, FT_of, ew]
          · by_cases el : WR (q_g s 286) j (q_g s 290) (N / 2) < WR (q_g s 286) x (q_g s 290) (N / 2)
            · simp (disch := first | omega | exact q_b_01 _) only [↓reduceIte, q_bk0, q_bk1, q_bk2, q_sg_b, q_b_0, q_b_n0, q_b_1, q_b_n1, q_b_T, q_b_F, q_sg_g, q_sg_sg, q_sg_xs, q_sg_id, q_gu_ne, q_gu_eq, q_g_fne, q_g_cpe, q_w_f, q_v_f, q_u_f, q_fn_f, q_cp_f, q_sg_pg, q_sg_hc, q_lt_t, q_lt_f, q_le_t, q_le_f, q_eq_t, q_eq_f, ne_eq, eq_self, Bool.false_eq_true, Bool.true_eq_false, not_true_eq_false, not_false_eq_true, true_and, and_true, false_and, and_false, true_or, or_true, false_or, or_false, if_true, if_false, Int.reduceAdd, Int.reduceMul, Int.reduceSub, Int.reduceNeg, fs, hf, ex, el, R_166_0, R_166_4, R_166_10, R_166_18, R_166_23, R_166_38, R_166_44, R_166_47, R_166_54, R_166_59, R_166_69, R_166_71, R_166_77, C_166_1, C_166_20, C_166_41, C_166_51, C_166_66, cc_hasBit, FT_of, ew]
            · simp (disch := first | omega | exact q_b_01 _) only [↓reduceIte, q_bk0, q_bk1, q_bk2, q_sg_b, q_b_0, q_b_n0, q_b_1, q_b_n1, q_b_T, q_b_F, q_sg_g, q_sg_sg, q_sg_xs, q_sg_id, q_gu_ne, q_gu_eq, q_g_fne, q_g_cpe, q_w_f, q_v_f, q_u_f, q_fn_f, q_cp_f, q_sg_pg, q_sg_hc, q_lt_t, q_lt_f, q_le_t, q_le_f, q_eq_t, q_eq_f, ne_eq, eq_self, Bool.false_eq_true, Bool.true_eq_false, not_true_eq_false, not_false_eq_true, true_and, and_true, false_and, and_false, true_or, or_true, false_or, or_false, if_true, if_false, Int.reduceAdd, Int.reduceMul, Int.reduceSub, Int.reduceNeg, fs, hf, ex, el, R_166_0, R_166_4, R_166_10, R_166_18, R_166_23, R_166_38, R_166_44, R_166_47, R_166_54, R_166_59, R_166_69, R_166_71, R_166_77, C_166_1, C_166_20, C_166_41, C_166_51, C_166_66, cc_hasBit, FT_of, ew]
        · simp (disch := first | omega | exact q_b_01 _) only [↓reduceIte, q_bk0, q_bk1, q_bk2, q_sg_b, q_b_0, q_b_n0, q_b_1, q_b_n1, q_b_T, q_b_F, q_sg_g, q_sg_sg, q_sg_xs, q_sg_id, q_gu_ne, q_gu_eq, q_g_fne, q_g_cpe, q_w_f, q_v_f, q_u_f, q_fn_f, q_cp_f, q_sg_pg, q_sg_hc, q_lt_t, q_lt_f, q_le_t, q_le_f, q_eq_t, q_eq_f, ne_eq, eq_self, Bool.false_eq_true, Bool.true_eq_false, not_true_eq_false, not_false_eq_true, true_and, and_true, false_and, and_false, true_or, or_true, false_or, or_false, if_true, if_false, Int.reduceAdd, Int.reduceMul, Int.reduceSub, Int.reduceNeg, fs, hf, R_166_0, R_166_4, R_166_10, R_166_18, R_166_23, R_166_38, R_166_44, R_166_47, R_166_54, R_166_59, R_166_69, R_166_71, R_166_77, C_166_1, C_166_20, C_166_41, C_166_51, C_166_66, cc_hasBit, FT_of]
      · unfold lkf
        split
        · rename_i h
          exact Or.inr ⟨a1, a2, h.1⟩
        · exact hx) (t0 := -1) (Or.inl rfl)
    obtain ⟨_, hgood⟩ := mm_hears (d := d + 24) (L := L) (xs := xs) (s := t) (O := vp_updL O 0 (q_I (q_it (lkf (q_g s 286) (q_g s 290) (N / 2)) 5 (-1))).toInt64) (c := c) (m := q_g s 286) (Tp := q_g s 290) (N := N) (by
      funext z
      rw [tz 286 z (by omega), q_gu_ne (by omega)]) Hv (by rw [tz 285 8 (by omega), q_gu_ne (by omega)]; exact T.1) T.2.1 T.2.2.1 (fun k k0 k1 => by
      rw [tz 290 k (by omega), q_gu_ne (by omega)]
      exact ⟨rfl, (T.2.2.2 k k0 k1).2.1⟩)
    obtain ⟨u, g1, g2, g3⟩ := hgood ⟨h1, h2, h3⟩
    have u0 : q_g u 285 0 = 0 := by
      show (u 285 0).toInt = _
      rw [g2 285 0 (by omega) (by omega)]
      show q_g (q_u (q_u t 285 8 0) 285 0 0) 285 0 = 0
      rw [q_gu_eq rfl]
      rfl
    refine ⟨0, q_it (lkf (q_g s 286) (q_g s 290) (N / 2)) 5 (-1), t, u, vp_updL O 0 (q_I (q_it (lkf (q_g s 286) (q_g s 290) (N / 2)) 5 (-1))).toInt64, c, ?_, ?_, by omega, by omega, u0, fun _ => rfl, Or.inl rfl, ?_⟩
    · have g0' : EV (d + 39) 166 32 [.ref 1, .int (q_I (N / 2)), .int (q_I (FT (q_g s 286) (q_g s 290) (N / 2))), .int (q_I (-1)), .int (q_I (2)), .int (q_I (0))] [] (q_h L xs (t) O c) = some (.inl (some (.int (q_I (q_it (lkf (q_g s 286) (q_g s 290) (N / 2)) 5 (-1))))), q_h L xs (t) O c) := by
        refine Eq.trans g0.1 ?_
        rw [R_166_32]
        simp (disch := first | omega | exact q_b_01 _) only [↓reduceIte, q_bk0, q_bk1, q_bk2, q_sg_b, q_b_0, q_b_n0, q_b_1, q_b_n1, q_b_T, q_b_F, q_sg_g, q_sg_sg, q_sg_xs, q_sg_id, q_gu_ne, q_gu_eq, q_g_fne, q_g_cpe, q_w_f, q_v_f, q_u_f, q_fn_f, q_cp_f, q_sg_pg, q_sg_hc, q_lt_t, q_lt_f, q_le_t, q_le_f, q_eq_t, q_eq_f, ne_eq, eq_self, Bool.false_eq_true, Bool.true_eq_false, not_true_eq_false, not_false_eq_true, true_and, and_true, false_and, and_false, true_or, or_true, false_or, or_false, if_true, if_false, Int.reduceAdd, Int.reduceMul, Int.reduceSub, Int.reduceNeg, R_166_0, R_166_4, R_166_10, R_166_18, R_166_23, R_166_38, R_166_44, R_166_47, R_166_54, R_166_59, R_166_69, R_166_71, R_166_77, C_166_1, C_166_20, C_166_41, C_166_51, C_166_66]
        rfl
      simp (disch := first | omega | exact q_b_01 _) only [↓reduceIte, q_bk0, q_bk1, q_bk2, q_sg_b, q_b_0, q_b_n0, q_b_1, q_b_n1, q_b_T, q_b_F, q_sg_g, q_sg_sg, q_sg_xs, q_sg_id, q_gu_ne, q_gu_eq, q_g_fne, q_g_cpe, q_w_f, q_v_f, q_u_f, q_fn_f, q_cp_f, q_sg_pg, q_sg_hc, q_lt_t, q_lt_f, q_le_t, q_le_f, q_eq_t, q_eq_f, ne_eq, eq_self, Bool.false_eq_true, Bool.true_eq_false, not_true_eq_false, not_false_eq_true, true_and, and_true, false_and, and_false, true_or, or_true, false_or, or_false, if_true, if_false, Int.reduceAdd, Int.reduceMul, Int.reduceSub, Int.reduceNeg, R_24_0, R_24_6, R_24_8, R_24_12, C_24_3, R_166_0, R_166_4, R_166_10, R_166_18, R_166_23, R_166_38, R_166_44, R_166_47, R_166_54, R_166_59, R_166_69, R_166_71, R_166_77, C_166_1, C_166_20, C_166_41, C_166_51, C_166_66, e1, e2, g0', q_lst, K_24_0]
    · simp (disch := first | omega | exact q_b_01 _) only [↓reduceIte, q_bk0, q_bk1, q_bk2, q_sg_b, q_b_0, q_b_n0, q_b_1, q_b_n1, q_b_T, q_b_F, q_sg_g, q_sg_sg, q_sg_xs, q_sg_id, q_gu_ne, q_gu_eq, q_g_fne, q_g_cpe, q_w_f, q_v_f, q_u_f, q_fn_f, q_cp_f, q_sg_pg, q_sg_hc, q_lt_t, q_lt_f, q_le_t, q_le_f, q_eq_t, q_eq_f, ne_eq, eq_self, Bool.false_eq_true, Bool.true_eq_false, not_true_eq_false, not_false_eq_true, true_and, and_true, false_and, and_false, true_or, or_true, false_or, or_false, if_true, if_false, Int.reduceAdd, Int.reduceMul, Int.reduceSub, Int.reduceNeg, u0, R_330_0, R_330_4, R_330_12, R_330_14, R_330_23, R_330_28, R_330_31, R_330_36, R_330_42, R_330_48, R_330_51, R_330_53, R_330_59, C_330_1, C_330_25, g1]
      generalize hOO : vp_updL O 0 (q_I (q_it (lkf (q_g s 286) (q_g s 290) (N / 2)) 5 (-1))).toInt64 = OO
      have k0 := q_itl (fun j x => EV (d + 40) 330 18 [.ref 285, .int (q_I (FT (q_g s 286) (q_g s 290) (N / 2))), .int (q_I x), .int (q_I j)] [] (q_h L xs u OO c)) (lkf (q_g s 286) (q_g s 290) (N / 2)) (fun j x => x = -1 ∨ 0 ≤ x ∧ x < 5 ∧ fb (q_g s 286) (q_g s 290) (N / 2) x = true) (hi := 5) (by omega) (fun j x a1 a2 hx => by
        have wr := WR_rg (m := q_g s 286) (Tp := q_g s 290) (R := N / 2) (by omega) j
        have wx := WR_rg (m := q_g s 286) (Tp := q_g s 290) (R := N / 2) (by omega) x
        refine ⟨?_, ?_⟩
        · rw [R_330_18]
          unfold lkf
          by_cases hf : fb (q_g s 286) (q_g s 290) (N / 2) j = true
          · have q1 := (g3 j a1 a2 (fb_vo hf).1).1
            by_cases ex : x = -1
            · simp (disch := first | omega | exact q_b_01 _) only [↓reduceIte, q_bk0, q_bk1, q_bk2, q_sg_b, q_b_0, q_b_n0, q_b_1, q_b_n1, q_b_T, q_b_F, q_sg_g, q_sg_sg, q_sg_xs, q_sg_id, q_gu_ne, q_gu_eq, q_g_fne, q_g_cpe, q_w_f, q_v_f, q_u_f, q_fn_f, q_cp_f, q_sg_pg, q_sg_hc, q_lt_t, q_lt_f, q_le_t, q_le_f, q_eq_t, q_eq_f, ne_eq, eq_self, Bool.false_eq_true, Bool.true_eq_false, not_true_eq_false, not_false_eq_true, true_and, and_true, false_and, and_false, true_or, or_true, false_or, or_false, if_true, if_false, Int.reduceAdd, Int.reduceMul, Int.reduceSub, Int.reduceNeg, fs, hf, ex, R_330_0, R_330_4, R_330_12, R_330_14, R_330_23, R_330_28, R_330_31, R_330_36, R_330_42, R_330_48, R_330_51, R_330_53, R_330_59, C_330_1, C_330_25, mm_isOf, FT_of]
            · obtain ⟨x0, x1, xf⟩ := hx.resolve_left ex
              have q2 := (g3 x x0 x1 (fb_vo xf).1).1
              by_cases el : WR (q_g s 286) j (q_g s 290) (N / 2) < WR (q_g s 286) x (q_g s 290) (N / 2)
              · simp (disch := first | omega | exact q_b_01 _) only [↓reduceIte, q_bk0, q_bk1, q_bk2, q_sg_b, q_b_0, q_b_n0, q_b_1, q_b_n1, q_b_T, q_b_F, q_sg_g, q_sg_sg, q_sg_xs, q_sg_id, q_gu_ne, q_gu_eq, q_g_fne, q_g_cpe, q_w_f, q_v_f, q_u_f, q_fn_f, q_cp_f, q_sg_pg, q_sg_hc, q_lt_t, q_lt_f, q_le_t, q_le_f, q_eq_t, q_eq_f, ne_eq, eq_self, Bool.false_eq_true, Bool.true_eq_false, not_true_eq_false, not_false_eq_true, true_and, and_true, false_and, and_false, true_or, or_true, false_or, or_false, if_true, if_false, Int.reduceAdd, Int.reduceMul, Int.reduceSub, Int.reduceNeg, fs, hf, ex, el, q1, q2, R_330_0, R_330_4, R_330_12, R_330_14, R_330_23, R_330_28, R_330_31, R_330_36, R_330_42, R_330_48, R_330_51, R_330_53, R_330_59, C_330_1, C_330_25, mm_isOf, FT_of]
              · simp (disch := first | omega | exact q_b_01 _) only [↓reduceIte, q_bk0, q_bk1, q_bk2, q_sg_b, q_b_0, q_b_n0, q_b_1, q_b_n1, q_b_T, q_b_F, q_sg_g, q_sg_sg, q_sg_xs, q_sg_id, q_gu_ne, q_gu_eq, q_g_fne, q_g_cpe, q_w_f, q_v_f, q_u_f, q_fn_f, q_cp_f, q_sg_pg, q_sg_hc, q_lt_t, q_lt_f, q_le_t, q_le_f, q_eq_t, q_eq_f, ne_eq, eq_self, Bool.false_eq_true, Bool.true_eq_false, not_true_eq_false, not_false_eq_true, true_and, and_true, false_and, and_false, true_or, or_true, false_or, or_false, if_true, if_false, Int.reduceAdd, Int.reduceMul, Int.reduceSub, Int.reduceNeg, fs, hf, ex, el, q1, q2, R_330_0, R_330_4, R_330_12, R_330_14, R_330_23, R_330_28, R_330_31, R_330_36, R_330_42, R_330_48, R_330_51, R_330_53, R_330_59, C_330_1, C_330_25, mm_isOf, FT_of]
          · simp (disch := first | omega | exact q_b_01 _) only [↓reduceIte, q_bk0, q_bk1, q_bk2, q_sg_b, q_b_0, q_b_n0, q_b_1, q_b_n1, q_b_T, q_b_F, q_sg_g, q_sg_sg, q_sg_xs, q_sg_id, q_gu_ne, q_gu_eq, q_g_fne, q_g_cpe, q_w_f, q_v_f, q_u_f, q_fn_f, q_cp_f, q_sg_pg, q_sg_hc, q_lt_t, q_lt_f, q_le_t, q_le_f, q_eq_t, q_eq_f, ne_eq, eq_self, Bool.false_eq_true, Bool.true_eq_false, not_true_eq_false, not_false_eq_true, true_and, and_true, false_and, and_false, true_or, or_true, false_or, or_false, if_true, if_false, Int.reduceAdd, Int.reduceMul, Int.reduceSub, Int.reduceNeg, fs, hf, R_330_0, R_330_4, R_330_12, R_330_14, R_330_23, R_330_28, R_330_31, R_330_36, R_330_42, R_330_48, R_330_51, R_330_53, R_330_59, C_330_1, C_330_25, mm_isOf, FT_of]
        · unfold lkf
          split
          · rename_i h
            exact Or.inr ⟨a1, a2, h.1⟩
          · exact hx) (t0 := -1) (Or.inl rfl)
      refine Eq.trans k0.1 ?_
      rw [R_330_18]
      simp (disch := first | omega | exact q_b_01 _) only [↓reduceIte, q_bk0, q_bk1, q_bk2, q_sg_b, q_b_0, q_b_n0, q_b_1, q_b_n1, q_b_T, q_b_F, q_sg_g, q_sg_sg, q_sg_xs, q_sg_id, q_gu_ne, q_gu_eq, q_g_fne, q_g_cpe, q_w_f, q_v_f, q_u_f, q_fn_f, q_cp_f, q_sg_pg, q_sg_hc, q_lt_t, q_lt_f, q_le_t, q_le_f, q_eq_t, q_eq_f, ne_eq, eq_self, Bool.false_eq_true, Bool.true_eq_false, not_true_eq_false, not_false_eq_true, true_and, and_true, false_and, and_false, true_or, or_true, false_or, or_false, if_true, if_false, Int.reduceAdd, Int.reduceMul, Int.reduceSub, Int.reduceNeg, R_330_0, R_330_4, R_330_12, R_330_14, R_330_23, R_330_28, R_330_31, R_330_36, R_330_42, R_330_48, R_330_51, R_330_53, R_330_59, C_330_1, C_330_25]
      rfl
    · refine Big_used B (fun k z hz hn => ?_) ?_ ?_
      · rw [g2 k z (by unfold relz relc at hz; omega) (by unfold relz relc at hz; omega), q_u_n (by unfold relz relc at hz; omega), q_u_n (by omega), e4 k (by unfold relz relc at hz; omega), q_u_n (by omega)]
      · show (u 285 8).toInt = _
        rw [g2 285 8 (by omega) (by omega), q_u_n (by omega)]
        show q_g (q_u t 285 8 0) 285 8 = 0
        rw [q_gu_eq rfl]
        rfl
      · show (u 2 1).toInt = _
        rw [g2 2 1 (by omega) (by omega), q_u_n (by omega), q_u_n (by omega)]
        show q_g t 2 1 = 0
        rw [tz 2 1 (by omega), q_gu_eq rfl]
        rfl
  · obtain ⟨hbad, _⟩ := mm_hears (d := d + 24) (L := L) (xs := xs) (s := q_u s 2 1 0) (O := O) (c := q_th c) (m := q_g s 286) (Tp := q_g s 290) (N := N) (q_u_f (by decide)) Hv (by rw [q_gu_ne (by omega)]; exact T.1) T.2.1 T.2.2.1 (fun k k0 k1 => by
      rw [q_gu_ne (by omega)]
      exact ⟨rfl, (T.2.2.2 k k0 k1).2.1⟩)
    have g1 := hbad h1
    refine ⟨1, 0, q_u s 2 1 0, q_u (q_u (q_u s 2 1 0) 285 8 0) 285 0 1, O, q_th c, ?_, ?_, by omega, by omega, ?_, fun h => absurd h (by omega), Or.inr rfl, ?_⟩
    · simp (disch := first | omega | exact q_b_01 _) only [↓reduceIte, q_bk0, q_bk1, q_bk2, q_sg_b, q_b_0, q_b_n0, q_b_1, q_b_n1, q_b_T, q_b_F, q_sg_g, q_sg_sg, q_sg_xs, q_sg_id, q_gu_ne, q_gu_eq, q_g_fne, q_g_cpe, q_w_f, q_v_f, q_u_f, q_fn_f, q_cp_f, q_sg_pg, q_sg_hc, q_lt_t, q_lt_f, q_le_t, q_le_f, q_eq_t, q_eq_f, ne_eq, eq_self, Bool.false_eq_true, Bool.true_eq_false, not_true_eq_false, not_false_eq_true, true_and, and_true, false_and, and_false, true_or, or_true, false_or, or_false, if_true, if_false, Int.reduceAdd, Int.reduceMul, Int.reduceSub, Int.reduceNeg, R_24_0, R_24_6, R_24_8, R_24_12, C_24_3, R_166_0, R_166_4, R_166_10, R_166_18, R_166_23, R_166_38, R_166_44, R_166_47, R_166_54, R_166_59, R_166_69, R_166_71, R_166_77, C_166_1, C_166_20, C_166_41, C_166_51, C_166_66, e1, K_24_0]
    · simp (disch := first | omega | exact q_b_01 _) only [↓reduceIte, q_bk0, q_bk1, q_bk2, q_sg_b, q_b_0, q_b_n0, q_b_1, q_b_n1, q_b_T, q_b_F, q_sg_g, q_sg_sg, q_sg_xs, q_sg_id, q_gu_ne, q_gu_eq, q_g_fne, q_g_cpe, q_w_f, q_v_f, q_u_f, q_fn_f, q_cp_f, q_sg_pg, q_sg_hc, q_lt_t, q_lt_f, q_le_t, q_le_f, q_eq_t, q_eq_f, ne_eq, eq_self, Bool.false_eq_true, Bool.true_eq_false, not_true_eq_false, not_false_eq_true, true_and, and_true, false_and, and_false, true_or, or_true, false_or, or_false, if_true, if_false, Int.reduceAdd, Int.reduceMul, Int.reduceSub, Int.reduceNeg, R_330_0, R_330_4, R_330_12, R_330_14, R_330_23, R_330_28, R_330_31, R_330_36, R_330_42, R_330_48, R_330_51, R_330_53, R_330_59, C_330_1, C_330_25, g1]
    · rw [q_gu_eq rfl]
      rfl
    · refine Big_used B (SmT_u (SmT_u (SmT_u (fun _ _ _ _ => rfl) (by omega)) (by omega)) (by unfold relz relc; omega)) ?_ ?_
      · rw [q_gu_ne (by omega), q_gu_eq rfl]
        rfl
      · rw [q_gu_ne (by omega), q_gu_ne (by omega), q_gu_eq rfl]
        rfl
def PC (x : Int) : Int := q_S (fun k => q_and (q_shr x k) 1) 0 31
def BC (x0 : Int) : Int := q_and (((q_and (((q_and (x0 - (q_and (q_ushr x0 1) 1431655765)) 858993459) + (q_and (q_ushr (x0 - (q_and (q_ushr x0 1) 1431655765)) 2) 858993459)) + (q_ushr ((q_and (x0 - (q_and (q_ushr x0 1) 1431655765)) 858993459) + (q_and (q_ushr (x0 - (q_and (q_ushr x0 1) 1431655765)) 2) 858993459)) 4)) 252645135) + (q_ushr (q_and (((q_and (x0 - (q_and (q_ushr x0 1) 1431655765)) 858993459) + (q_and (q_ushr (x0 - (q_and (q_ushr x0 1) 1431655765)) 2) 858993459)) + (q_ushr ((q_and (x0 - (q_and (q_ushr x0 1) 1431655765)) 858993459) + (q_and (q_ushr (x0 - (q_and (q_ushr x0 1) 1431655765)) 2) 858993459)) 4)) 252645135) 8)) + (q_ushr ((q_and (((q_and (x0 - (q_and (q_ushr x0 1) 1431655765)) 858993459) + (q_and (q_ushr (x0 - (q_and (q_ushr x0 1) 1431655765)) 2) 858993459)) + (q_ushr ((q_and (x0 - (q_and (q_ushr x0 1) 1431655765)) 858993459) + (q_and (q_ushr (x0 - (q_and (q_ushr x0 1) 1431655765)) 2) 858993459)) 4)) 252645135) + (q_ushr (q_and (((q_and (x0 - (q_and (q_ushr x0 1) 1431655765)) 858993459) + (q_and (q_ushr (x0 - (q_and (q_ushr x0 1) 1431655765)) 2) 858993459)) + (q_ushr ((q_and (x0 - (q_and (q_ushr x0 1) 1431655765)) 858993459) + (q_and (q_ushr (x0 - (q_and (q_ushr x0 1) 1431655765)) 2) 858993459)) 4)) 252645135) 8)) 16)) 63
theorem bc_pc : ∀ n : Fin 32, BC ((n.val : Nat) : Int) = PC ((n.val : Nat) : Int) ∧ 0 ≤ PC ((n.val : Nat) : Int) ∧ PC ((n.val : Nat) : Int) ≤ 5 := by decide +kernel
theorem bc_eq {x : Int} (h0 : 0 ≤ x) (h1 : x < 32) : BC x = PC x ∧ 0 ≤ PC x ∧ PC x ≤ 5 := by
  have := bc_pc ⟨x.toNat, by omega⟩
  rwa [show ((x.toNat : Nat) : Int) = x by omega] at this
theorem jj_bitCount {x : Int} : EV (d) 357 0 [.int (q_I (x))] [] (q_h L xs s O c) = some (.inl (some (.int (q_I (BC x)))), q_h L xs (s) O c) := R_357_0 d L xs s O c x
theorem mm_bits {x : Int} : EV (d) 218 0 [.int (q_I (x)), .null, .null] [] (q_h L xs s O c) = some (.inl (some (.int (q_I (PC x)))), q_h L xs (s) O c) := by
  simp (disch := first | omega | exact q_b_01 _) only [↓reduceIte, q_bk0, q_bk1, q_bk2, q_sg_b, q_b_0, q_b_n0, q_b_1, q_b_n1, q_b_T, q_b_F, q_sg_g, q_sg_sg, q_sg_xs, q_sg_id, q_gu_ne, q_gu_eq, q_g_fne, q_g_cpe, q_w_f, q_v_f, q_u_f, q_fn_f, q_cp_f, q_sg_pg, q_sg_hc, q_lt_t, q_lt_f, q_le_t, q_le_f, q_eq_t, q_eq_f, ne_eq, eq_self, Bool.false_eq_true, Bool.true_eq_false, not_true_eq_false, not_false_eq_true, true_and, and_true, false_and, and_false, true_or, or_true, false_or, or_false, if_true, if_false, Int.reduceAdd, Int.reduceMul, Int.reduceSub, Int.reduceNeg, R_218_0, R_218_10, R_218_24]
  refine (q_sm (fun j a => EV (d) 218 4 [.int (q_I (x)), .int (q_I (a)), .int (q_I (j))] [] (q_h L xs s O c)) (fun k => q_and (q_shr x k) 1) (lo := 0) (hi := 31) (by omega) (fun j a h1 h2 => ?_)).trans ?_
  · rw [R_218_4]
    simp (disch := first | omega | exact q_b_01 _) only [↓reduceIte, q_bk0, q_bk1, q_bk2, q_sg_b, q_b_0, q_b_n0, q_b_1, q_b_n1, q_b_T, q_b_F, q_sg_g, q_sg_sg, q_sg_xs, q_sg_id, q_gu_ne, q_gu_eq, q_g_fne, q_g_cpe, q_w_f, q_v_f, q_u_f, q_fn_f, q_cp_f, q_sg_pg, q_sg_hc, q_lt_t, q_lt_f, q_le_t, q_le_f, q_eq_t, q_eq_f, ne_eq, eq_self, Bool.false_eq_true, Bool.true_eq_false, not_true_eq_false, not_false_eq_true, true_and, and_true, false_and, and_false, true_or, or_true, false_or, or_false, if_true, if_false, Int.reduceAdd, Int.reduceMul, Int.reduceSub, Int.reduceNeg, R_218_0, R_218_10, R_218_24]
  · rw [R_218_4]
    simp (disch := first | omega | exact q_b_01 _) only [↓reduceIte, q_bk0, q_bk1, q_bk2, q_sg_b, q_b_0, q_b_n0, q_b_1, q_b_n1, q_b_T, q_b_F, q_sg_g, q_sg_sg, q_sg_xs, q_sg_id, q_gu_ne, q_gu_eq, q_g_fne, q_g_cpe, q_w_f, q_v_f, q_u_f, q_fn_f, q_cp_f, q_sg_pg, q_sg_hc, q_lt_t, q_lt_f, q_le_t, q_le_f, q_eq_t, q_eq_f, ne_eq, eq_self, Bool.false_eq_true, Bool.true_eq_false, not_true_eq_false, not_false_eq_true, true_and, and_true, false_and, and_false, true_or, or_true, false_or, or_false, if_true, if_false, Int.reduceAdd, Int.reduceMul, Int.reduceSub, Int.reduceNeg, R_218_0, R_218_10, R_218_24]
    rfl
/-- how many of one kind, of all; of those behind -/
def Fk (m Tp : Int → Int) (R key a x : Int) : Int := q_b (fb m Tp R a = true ∧ fb m Tp R x = true ∧ (VV m a key).toInt = (VV m x key).toInt)
def nA (m Tp : Int → Int) (R key a : Int) : Int := q_S (Fk m Tp R key a) 0 5
def pA (m Tp : Int → Int) (R key a : Int) : Int := q_S (Fk m Tp R key a) a 5
def gm (f : Int → Int) : Int := q_it (fun a x => if x < f a then f a else x) 5 0
theorem gm_le {f g : Int → Int} (h : ∀ a, 0 ≤ a → a < 5 → f a ≤ gm g) : gm f ≤ gm g := by
  have key : ∀ n : Nat, (n : Int) ≤ 5 → q_it (fun a x => if x < f a then f a else x) n 0 ≤ gm g := by
    intro n
    induction n with
    | zero =>
      intro _
      have : ∀ n : Nat, 0 ≤ q_it (fun a x => if x < g a then g a else x) n 0 := by
        intro n
        induction n with
        | zero => exact Int.le_refl 0
        | succ n ih =>
          show 0 ≤ if _ < g n then g n else _
          split <;> omega
      exact this 5
    | succ n ih =>
      intro hn
      have := ih (by omega)
      have := h n (by omega) (by omega)
      show (if _ < f n then f n else _) ≤ _
      split <;> omega
  exact key 5 (by omega)
theorem gm_ge {g : Int → Int} {a : Int} (a0 : 0 ≤ a) (a1 : a < 5) : g a ≤ gm g := by
  have key : ∀ n : Nat, (n : Int) ≤ 5 → a < n → g a ≤ q_it (fun a x => if x < g a then g a else x) n 0 := by
    intro n
    induction n with
    | zero => intro _ h; omega
    | succ n ih =>
      intro hn ha
      show g a ≤ if q_it (fun a x => if x < g a then g a else x) n 0 < g n then g n else q_it (fun a x => if x < g a then g a else x) n 0
      by_cases e : a = n
      · rw [e]
        split <;> omega
      · have := ih (by omega) (by omega)
        split <;> omega
  exact key 5 (by omega) (by omega)
theorem Fk_01 (m Tp : Int → Int) (R key a x : Int) : Fk m Tp R key a x = 0 ∨ Fk m Tp R key a x = 1 := q_b_01 _
theorem pn_eq (m Tp : Int → Int) (R key : Int) : gm (pA m Tp R key) = gm (nA m Tp R key) := by
  refine Int.le_antisymm (gm_le (fun a a0 a1 => ?_)) (gm_le (fun a a0 a1 => ?_))
  · refine Int.le_trans ?_ (gm_ge a0 a1)
    unfold pA nA
    rw [q_S_sp (Fk m Tp R key a) (a := 0) (b := a) (c := 5) a0 (by omega)]
    have := q_S_bd (f := Fk m Tp R key a) (lo := 0) (hi := a) (a := 0) (b := 1) (fun i _ _ => by
      rcases Fk_01 m Tp R key a i with e | e <;> rw [e] <;> omega) a0
    omega
  · have key' : ∀ n : Nat, ∀ a : Int, 0 ≤ a → a < 5 → a < (n : Int) → nA m Tp R key a ≤ gm (pA m Tp R key) := by
      intro n
      induction n with
      | zero => intro a a0 _ h; omega
      | succ n ih =>
        intro a a0 a1 an
        by_cases hx : ∃ x : Int, 0 ≤ x ∧ x < a ∧ Fk m Tp R key a x = 1
        · obtain ⟨x, x0, x1, hF⟩ := hx
          have hP : fb m Tp R a = true ∧ fb m Tp R x = true ∧ (VV m a key).toInt = (VV m x key).toInt := by
            unfold Fk at hF
            rwa [q_b_1] at hF
          have e : nA m Tp R key a = nA m Tp R key x := q_S_c (fun i _ _ => q_b_c (by rw [hP.1, hP.2.1, hP.2.2]))
          rw [e]
          exact ih x x0 (by omega) (by omega)
        · refine Int.le_trans ?_ (gm_ge a0 a1)
          unfold nA pA
          rw [q_S_sp (Fk m Tp R key a) (a := 0) (b := a) (c := 5) a0 (by omega), q_S_z (lo := 0) (hi := a) (fun i i0 i1 => by
            rcases Fk_01 m Tp R key a i with e | e
            · exact e
            · exact absurd ⟨i, i0, i1, e⟩ hx)]
          omega
    exact key' 5 a a0 a1 (by omega)
end LK
