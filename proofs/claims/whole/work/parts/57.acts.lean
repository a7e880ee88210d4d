/-! CALLS OF BOTH: put, forget, open, close -/
section AO2
variable {d L : Nat} {xs : Nat → Int32} {s : Nat → Int → Int32} {O : Nat → Int64} {c : Bool × Nat × Nat} {b : Int}
theorem op_put (B : Big b s) {key v : Int} (v1 : -2147483648 ≤ key) (v2 : key < 2147483648) (w1 : -2147483648 ≤ v) (w2 : v < 2147483648) : Op (Big b) (fun h => EV (d + 40) 9 0 [.ref 1, .int (q_I (key)), .int (q_I (v)), .ref 312, .null] [] h) (fun h => EV (d + 40) 305 0 [.ref 285, .int (q_I (key)), .int (q_I (v))] [] h) L xs s O c := by
  have H := B.1.1
  have I := B.1.2.1
  have hn := rb_chg H
  have nr := I.2.1
  by_cases h1 : 0 ≤ key ∧ key < 100
  · by_cases h2 : 0 ≤ v ∧ v ≤ 100
    · by_cases h3 : q_g s 286 8 = 12
      · refine ⟨3, 0, s, q_u s 285 0 3, O, q_th c, ?_, ?_, by omega, by omega, by simp (disch := first | omega | exact q_b_01 _) only [↓reduceIte, q_bk0, q_bk1, q_bk2, q_sg_b, q_b_0, q_b_n0, q_b_1, q_b_n1, q_b_T, q_b_F, q_sg_g, q_sg_sg, q_sg_xs, q_sg_id, q_gu_ne, q_gu_eq, q_g_fne, q_g_cpe, q_w_f, q_v_f, q_u_f, q_fn_f, q_cp_f, q_sg_pg, q_sg_hc, q_lt_t, q_lt_f, q_le_t, q_le_f, q_eq_t, q_eq_f, ne_eq, eq_self, Bool.false_eq_true, Bool.true_eq_false, not_true_eq_false, not_false_eq_true, true_and, and_true, false_and, and_false, true_or, or_true, false_or, or_false, if_true, if_false, Int.reduceAdd, Int.reduceMul, Int.reduceSub, Int.reduceNeg], by omega, Or.inr rfl, Big_sm B (Sm_u Sm_rfl (by unfold relz relc; omega))⟩
        · simp (disch := first | omega | exact q_b_01 _) only [↓reduceIte, q_bk0, q_bk1, q_bk2, q_sg_b, q_b_0, q_b_n0, q_b_1, q_b_n1, q_b_T, q_b_F, q_sg_g, q_sg_sg, q_sg_xs, q_sg_id, q_gu_ne, q_gu_eq, q_g_fne, q_g_cpe, q_w_f, q_v_f, q_u_f, q_fn_f, q_cp_f, q_sg_pg, q_sg_hc, q_lt_t, q_lt_f, q_le_t, q_le_f, q_eq_t, q_eq_f, ne_eq, eq_self, Bool.false_eq_true, Bool.true_eq_false, not_true_eq_false, not_false_eq_true, true_and, and_true, false_and, and_false, true_or, or_true, false_or, or_false, if_true, if_false, Int.reduceAdd, Int.reduceMul, Int.reduceSub, Int.reduceNeg, hn, R_9_0, R_9_8, R_9_10, R_9_15, R_9_19, R_9_23, C_9_5, R_147_0, R_147_4, R_147_7, R_147_15, R_147_19, R_147_25, R_147_33, R_147_43, R_147_55, R_147_63, R_147_74, R_147_90, R_147_106, R_147_119, C_147_1, C_147_71, cc_isKey, K_9_2, K_9_0, K_9_1]
        · simp (disch := first | omega | exact q_b_01 _) only [↓reduceIte, q_bk0, q_bk1, q_bk2, q_sg_b, q_b_0, q_b_n0, q_b_1, q_b_n1, q_b_T, q_b_F, q_sg_g, q_sg_sg, q_sg_xs, q_sg_id, q_gu_ne, q_gu_eq, q_g_fne, q_g_cpe, q_w_f, q_v_f, q_u_f, q_fn_f, q_cp_f, q_sg_pg, q_sg_hc, q_lt_t, q_lt_f, q_le_t, q_le_f, q_eq_t, q_eq_f, ne_eq, eq_self, Bool.false_eq_true, Bool.true_eq_false, not_true_eq_false, not_false_eq_true, true_and, and_true, false_and, and_false, true_or, or_true, false_or, or_false, if_true, if_false, Int.reduceAdd, Int.reduceMul, Int.reduceSub, Int.reduceNeg, R_305_0, R_305_8, R_305_11, R_305_15, R_305_22, R_305_25, R_305_29, R_305_36, R_305_41, R_305_45, R_305_46, R_305_49, R_305_56, R_305_58, R_305_62, R_305_76, R_305_80, R_305_94, R_305_100, R_305_108, R_305_111, R_305_118, C_305_5, C_305_19, C_305_59, mm_isIn]
      · have f7 : q_g (rmC s) 7 = q_g s 7 := act_f B (by omega) (by omega)
        have g5 : q_g (rmC s) 7 5 = q_g s 286 8 := by rw [f7, hn]
        have g5b : q_g (q_u (rmC s) 18 (q_g s 286 8) key) 7 5 = q_g s 286 8 := by rw [q_gu_ne (by omega), g5]
        have er := cc_rem (d := d + 35) (L := L) (xs := xs) (O := O) (c := c) B
        obtain ⟨t, m1, m2, m3, m4, m5⟩ := act_mm (d := d + 39) (L := L) (xs := xs) (O := vp_updL O 0 (q_I (q_g s 286 8 + 1)).toInt64) (c := c) B (s2 := q_u (q_u (q_u (rmC s) 18 (q_g s 286 8) key) 19 (q_g s 286 8) v) 7 5 (q_g s 286 8 + 1)) (fun k z hz hk => by rw [q_u_n (by omega), q_u_n (by omega), q_u_n (by omega)])
        have uk : ∀ k z, 7 ≤ k → k ≤ 20 → ¬ (k = 7 ∧ z = 5 ∨ k = 18 ∧ z = q_g s 286 8 ∨ k = 19 ∧ z = q_g s 286 8) → q_g (q_u (q_u (q_u t 286 (17 + 2 * q_g s 286 8) key) 286 (17 + 2 * q_g s 286 8 + 1) v) 286 8 (q_g s 286 8 + 1)) k z = q_g s k z := fun k z a1 a2 a3 => by
          rw [q_gu_ne (by omega), q_gu_ne (by omega), q_gu_ne (by omega), m3 k z (by omega) (by omega), q_gu_ne (by omega), q_gu_ne (by omega), q_gu_ne (by omega), act_f B (by omega) (by omega)]
        refine ⟨0, q_g s 286 8 + 1, q_u (q_u (q_u (rmC s) 18 (q_g s 286 8) key) 19 (q_g s 286 8) v) 7 5 (q_g s 286 8 + 1), q_u (q_u (q_u t 286 (17 + 2 * q_g s 286 8) key) 286 (17 + 2 * q_g s 286 8 + 1) v) 286 8 (q_g s 286 8 + 1), vp_updL O 0 (q_I (q_g s 286 8 + 1)).toInt64, c, ?_, ?_, by omega, by omega, ?_, fun _ => rfl, Or.inl rfl, ?_⟩
        · simp (disch := first | omega | exact q_b_01 _) only [↓reduceIte, q_bk0, q_bk1, q_bk2, q_sg_b, q_b_0, q_b_n0, q_b_1, q_b_n1, q_b_T, q_b_F, q_sg_g, q_sg_sg, q_sg_xs, q_sg_id, q_gu_ne, q_gu_eq, q_g_fne, q_g_cpe, q_w_f, q_v_f, q_u_f, q_fn_f, q_cp_f, q_sg_pg, q_sg_hc, q_lt_t, q_lt_f, q_le_t, q_le_f, q_eq_t, q_eq_f, ne_eq, eq_self, Bool.false_eq_true, Bool.true_eq_false, not_true_eq_false, not_false_eq_true, true_and, and_true, false_and, and_false, true_or, or_true, false_or, or_false, if_true, if_false, Int.reduceAdd, Int.reduceMul, Int.reduceSub, Int.reduceNeg, f7, hn, R_9_0, R_9_8, R_9_10, R_9_15, R_9_19, R_9_23, C_9_5, R_147_0, R_147_4, R_147_7, R_147_15, R_147_19, R_147_25, R_147_33, R_147_43, R_147_55, R_147_63, R_147_74, R_147_90, R_147_106, R_147_119, C_147_1, C_147_71, cc_isKey, er, q_lst, K_9_2, K_9_0, K_9_1]
        · simp (disch := first | omega | exact q_b_01 _) only [↓reduceIte, q_bk0, q_bk1, q_bk2, q_sg_b, q_b_0, q_b_n0, q_b_1, q_b_n1, q_b_T, q_b_F, q_sg_g, q_sg_sg, q_sg_xs, q_sg_id, q_gu_ne, q_gu_eq, q_g_fne, q_g_cpe, q_w_f, q_v_f, q_u_f, q_fn_f, q_cp_f, q_sg_pg, q_sg_hc, q_lt_t, q_lt_f, q_le_t, q_le_f, q_eq_t, q_eq_f, ne_eq, eq_self, Bool.false_eq_true, Bool.true_eq_false, not_true_eq_false, not_false_eq_true, true_and, and_true, false_and, and_false, true_or, or_true, false_or, or_false, if_true, if_false, Int.reduceAdd, Int.reduceMul, Int.reduceSub, Int.reduceNeg, act_f B, m2, R_305_0, R_305_8, R_305_11, R_305_15, R_305_22, R_305_25, R_305_29, R_305_36, R_305_41, R_305_45, R_305_46, R_305_49, R_305_56, R_305_58, R_305_62, R_305_76, R_305_80, R_305_94, R_305_100, R_305_108, R_305_111, R_305_118, C_305_5, C_305_19, C_305_59, mm_isIn, m1]
        · rw [q_gu_ne (by omega), q_gu_ne (by omega), q_gu_ne (by omega), m4]
        · have ez : ∀ z, z ≠ 8 → z ≠ 17 + 2 * q_g s 286 8 → z ≠ 18 + 2 * q_g s 286 8 → q_g (q_u (q_u (q_u t 286 (17 + 2 * q_g s 286 8) key) 286 (17 + 2 * q_g s 286 8 + 1) v) 286 8 (q_g s 286 8 + 1)) 286 z = q_g s 286 z := fun z z1 z2 z3 => by rw [q_gu_ne (by omega), q_gu_ne (by omega), q_gu_ne (by omega), m2]
          have e8 : q_g (q_u (q_u (q_u t 286 (17 + 2 * q_g s 286 8) key) 286 (17 + 2 * q_g s 286 8 + 1) v) 286 8 (q_g s 286 8 + 1)) 286 8 = q_g s 286 8 + 1 := by rw [q_gu_eq rfl, q_sg_id (by omega) (by omega)]
          have ek : q_g (q_u (q_u (q_u t 286 (17 + 2 * q_g s 286 8) key) 286 (17 + 2 * q_g s 286 8 + 1) v) 286 8 (q_g s 286 8 + 1)) 286 (17 + 2 * q_g s 286 8) = key := by rw [q_gu_ne (by omega), q_gu_ne (by omega), q_gu_eq rfl, q_sg_id (by omega) (by omega)]
          have ev : q_g (q_u (q_u (q_u t 286 (17 + 2 * q_g s 286 8) key) 286 (17 + 2 * q_g s 286 8 + 1) v) 286 8 (q_g s 286 8 + 1)) 286 (18 + 2 * q_g s 286 8) = v := by rw [q_gu_ne (by omega), q_gu_eq (by omega), q_sg_id (by omega) (by omega)]
          have u5 : q_g (q_u (q_u (q_u t 286 (17 + 2 * q_g s 286 8) key) 286 (17 + 2 * q_g s 286 8 + 1) v) 286 8 (q_g s 286 8 + 1)) 7 5 = q_g s 286 8 + 1 := by rw [q_gu_ne (by omega), q_gu_ne (by omega), q_gu_ne (by omega), m3 7 5 (by omega) (by omega), q_gu_eq rfl, q_sg_id (by omega) (by omega)]
          have u18 : q_g (q_u (q_u (q_u t 286 (17 + 2 * q_g s 286 8) key) 286 (17 + 2 * q_g s 286 8 + 1) v) 286 8 (q_g s 286 8 + 1)) 18 (q_g s 286 8) = key := by rw [q_gu_ne (by omega), q_gu_ne (by omega), q_gu_ne (by omega), m3 18 _ (by omega) (by omega), q_gu_ne (by omega), q_gu_ne (by omega), q_gu_eq rfl, q_sg_id (by omega) (by omega)]
          have u19 : q_g (q_u (q_u (q_u t 286 (17 + 2 * q_g s 286 8) key) 286 (17 + 2 * q_g s 286 8 + 1) v) 286 8 (q_g s 286 8 + 1)) 19 (q_g s 286 8) = v := by rw [q_gu_ne (by omega), q_gu_ne (by omega), q_gu_ne (by omega), m3 19 _ (by omega) (by omega), q_gu_ne (by omega), q_gu_eq rfl, q_sg_id (by omega) (by omega)]
          have hp : ∀ p w, 0 ≤ p → p < 48 → 0 ≤ w → w < 16 → pg (q_g (q_u (q_u (q_u t 286 (17 + 2 * q_g s 286 8) key) 286 (17 + 2 * q_g s 286 8 + 1) v) 286 8 (q_g s 286 8 + 1)) 286) p w = pg (q_g s 286) p w := fun p w p0 p1 w0 w1 => ez _ (by omega) (by omega) (by omega)
          refine m5 _ b (Int.le_refl _) (fun k z hz hk => by rw [q_u_n (by omega), q_u_n (by omega), q_u_n (by omega)]) (fun z hz => ez z (by omega) (by omega) (by omega)) ?_ ?_
          · refine RB_upd H I hp (fun k a1 a2 => funext fun z => uk k z (by omega) (by omega) (by omega)) (fun r r0 r1 => ?_) ?_ ?_ ?_
            · rw [uk 16 r (by omega) (by omega) (by omega), uk 17 r (by omega) (by omega) (by omega), ez _ (by omega) (by omega) (by omega), ez _ (by omega) (by omega) (by omega)]
              exact H.2.2.1 r r0 r1
            · rw [u5, e8]
              refine ⟨rfl, fun k k0 k1 => ?_⟩
              by_cases ek' : k = q_g s 286 8
              · subst ek'
                rw [u18, u19, ek, ev]
                exact ⟨rfl, rfl⟩
              · rw [uk 18 k (by omega) (by omega) (by omega), uk 19 k (by omega) (by omega) (by omega), ez _ (by omega) (by omega) (by omega), ez _ (by omega) (by omega) (by omega)]
                exact H.2.2.2.1.2 k k0 (by omega)
            · rw [uk 7 6 (by omega) (by omega) (by omega), uk 7 7 (by omega) (by omega) (by omega), uk 7 8 (by omega) (by omega) (by omega), uk 7 9 (by omega) (by omega) (by omega), uk 7 10 (by omega) (by omega) (by omega), uk 7 12 (by omega) (by omega) (by omega), ez 3 (by omega) (by omega) (by omega), ez 4 (by omega) (by omega) (by omega), ez 5 (by omega) (by omega) (by omega), ez 7 (by omega) (by omega) (by omega), ez 0 (by omega) (by omega) (by omega), ez 6 (by omega) (by omega) (by omega)]
              exact H.2.2.2.2.1
            · rw [uk 7 13 (by omega) (by omega) (by omega), ez 6 (by omega) (by omega) (by omega)]
              refine ⟨H.2.2.2.2.2.1, fun a w a0 a1 w0 w1 => ?_⟩
              rw [uk 20 _ (by omega) (by omega) (by omega), ez _ (by omega) (by omega) (by omega)]
              exact H.2.2.2.2.2.2 a w a0 a1 w0 w1
          · refine Inv_upd I hp (fun r r0 r1 hv => ?_) (fun r r0 r1 => ?_) ?_ ?_
            · rw [ez _ (by omega) (by omega) (by omega)] at hv
              exact Or.inl ⟨hv, ez _ (by omega) (by omega) (by omega), ez _ (by omega) (by omega) (by omega)⟩
            · rw [ez _ (by omega) (by omega) (by omega)]
              exact I.2.2.2 r r0 r1
            · rw [e8]
              refine ⟨by omega, by omega, fun k k0 k1 => ?_⟩
              by_cases ek' : k = q_g s 286 8
              · subst ek'
                rw [ek, ev]
                omega
              · rw [ez _ (by omega) (by omega) (by omega), ez _ (by omega) (by omega) (by omega)]
                exact I.2.1.2.2 k k0 (by omega)
            · rw [ez 0 (by omega) (by omega) (by omega), ez 3 (by omega) (by omega) (by omega), ez 4 (by omega) (by omega) (by omega), ez 5 (by omega) (by omega) (by omega), ez 6 (by omega) (by omega) (by omega)]
              exact I.2.2.1
    · refine ⟨2, 0, s, q_u s 285 0 2, O, q_th c, ?_, ?_, by omega, by omega, by simp (disch := first | omega | exact q_b_01 _) only [↓reduceIte, q_bk0, q_bk1, q_bk2, q_sg_b, q_b_0, q_b_n0, q_b_1, q_b_n1, q_b_T, q_b_F, q_sg_g, q_sg_sg, q_sg_xs, q_sg_id, q_gu_ne, q_gu_eq, q_g_fne, q_g_cpe, q_w_f, q_v_f, q_u_f, q_fn_f, q_cp_f, q_sg_pg, q_sg_hc, q_lt_t, q_lt_f, q_le_t, q_le_f, q_eq_t, q_eq_f, ne_eq, eq_self, Bool.false_eq_true, Bool.true_eq_false, not_true_eq_false, not_false_eq_true, true_and, and_true, false_and, and_false, true_or, or_true, false_or, or_false, if_true, if_false, Int.reduceAdd, Int.reduceMul, Int.reduceSub, Int.reduceNeg], by omega, Or.inr rfl, Big_sm B (Sm_u Sm_rfl (by unfold relz relc; omega))⟩
      · by_cases h3 : v < 0
        · simp (disch := first | omega | exact q_b_01 _) only [↓reduceIte, q_bk0, q_bk1, q_bk2, q_sg_b, q_b_0, q_b_n0, q_b_1, q_b_n1, q_b_T, q_b_F, q_sg_g, q_sg_sg, q_sg_xs, q_sg_id, q_gu_ne, q_gu_eq, q_g_fne, q_g_cpe, q_w_f, q_v_f, q_u_f, q_fn_f, q_cp_f, q_sg_pg, q_sg_hc, q_lt_t, q_lt_f, q_le_t, q_le_f, q_eq_t, q_eq_f, ne_eq, eq_self, Bool.false_eq_true, Bool.true_eq_false, not_true_eq_false, not_false_eq_true, true_and, and_true, false_and, and_false, true_or, or_true, false_or, or_false, if_true, if_false, Int.reduceAdd, Int.reduceMul, Int.reduceSub, Int.reduceNeg, R_9_0, R_9_8, R_9_10, R_9_15, R_9_19, R_9_23, C_9_5, R_147_0, R_147_4, R_147_7, R_147_15, R_147_19, R_147_25, R_147_33, R_147_43, R_147_55, R_147_63, R_147_74, R_147_90, R_147_106, R_147_119, C_147_1, C_147_71, cc_isKey, K_9_2, K_9_0, K_9_1]
        · simp (disch := first | omega | exact q_b_01 _) only [↓reduceIte, q_bk0, q_bk1, q_bk2, q_sg_b, q_b_0, q_b_n0, q_b_1, q_b_n1, q_b_T, q_b_F, q_sg_g, q_sg_sg, q_sg_xs, q_sg_id, q_gu_ne, q_gu_eq, q_g_fne, q_g_cpe, q_w_f, q_v_f, q_u_f, q_fn_f, q_cp_f, q_sg_pg, q_sg_hc, q_lt_t, q_lt_f, q_le_t, q_le_f, q_eq_t, q_eq_f, ne_eq, eq_self, Bool.false_eq_true, Bool.true_eq_false, not_true_eq_false, not_false_eq_true, true_and, and_true, false_and, and_false, true_or, or_true, false_or, or_false, if_true, if_false, Int.reduceAdd, Int.reduceMul, Int.reduceSub, Int.reduceNeg, R_9_0, R_9_8, R_9_10, R_9_15, R_9_19, R_9_23, C_9_5, R_147_0, R_147_4, R_147_7, R_147_15, R_147_19, R_147_25, R_147_33, R_147_43, R_147_55, R_147_63, R_147_74, R_147_90, R_147_106, R_147_119, C_147_1, C_147_71, cc_isKey, K_9_2, K_9_0, K_9_1]
      · simp (disch := first | omega | exact q_b_01 _) only [↓reduceIte, q_bk0, q_bk1, q_bk2, q_sg_b, q_b_0, q_b_n0, q_b_1, q_b_n1, q_b_T, q_b_F, q_sg_g, q_sg_sg, q_sg_xs, q_sg_id, q_gu_ne, q_gu_eq, q_g_fne, q_g_cpe, q_w_f, q_v_f, q_u_f, q_fn_f, q_cp_f, q_sg_pg, q_sg_hc, q_lt_t, q_lt_f, q_le_t, q_le_f, q_eq_t, q_eq_f, ne_eq, eq_self, Bool.false_eq_true, Bool.true_eq_false, not_true_eq_false, not_false_eq_true, true_and, and_true, false_and, and_false, true_or, or_true, false_or, or_false, if_true, if_false, Int.reduceAdd, Int.reduceMul, Int.reduceSub, Int.reduceNeg, h2, R_305_0, R_305_8, R_305_11, R_305_15, R_305_22, R_305_25, R_305_29, R_305_36, R_305_41, R_305_45, R_305_46, R_305_49, R_305_56, R_305_58, R_305_62, R_305_76, R_305_80, R_305_94, R_305_100, R_305_108, R_305_111, R_305_118, C_305_5, C_305_19, C_305_59, mm_isIn]
  · have h1' : ¬ (0 ≤ key ∧ key ≤ 99) := by omega
    refine ⟨1, 0, s, q_u s 285 0 1, O, q_th c, ?_, ?_, by omega, by omega, by simp (disch := first | omega | exact q_b_01 _) only [↓reduceIte, q_bk0, q_bk1, q_bk2, q_sg_b, q_b_0, q_b_n0, q_b_1, q_b_n1, q_b_T, q_b_F, q_sg_g, q_sg_sg, q_sg_xs, q_sg_id, q_gu_ne, q_gu_eq, q_g_fne, q_g_cpe, q_w_f, q_v_f, q_u_f, q_fn_f, q_cp_f, q_sg_pg, q_sg_hc, q_lt_t, q_lt_f, q_le_t, q_le_f, q_eq_t, q_eq_f, ne_eq, eq_self, Bool.false_eq_true, Bool.true_eq_false, not_true_eq_false, not_false_eq_true, true_and, and_true, false_and, and_false, true_or, or_true, false_or, or_false, if_true, if_false, Int.reduceAdd, Int.reduceMul, Int.reduceSub, Int.reduceNeg], by omega, Or.inr rfl, Big_sm B (Sm_u Sm_rfl (by unfold relz relc; omega))⟩
    · simp (disch := first | omega | exact q_b_01 _) only [↓reduceIte, q_bk0, q_bk1, q_bk2, q_sg_b, q_b_0, q_b_n0, q_b_1, q_b_n1, q_b_T, q_b_F, q_sg_g, q_sg_sg, q_sg_xs, q_sg_id, q_gu_ne, q_gu_eq, q_g_fne, q_g_cpe, q_w_f, q_v_f, q_u_f, q_fn_f, q_cp_f, q_sg_pg, q_sg_hc, q_lt_t, q_lt_f, q_le_t, q_le_f, q_eq_t, q_eq_f, ne_eq, eq_self, Bool.false_eq_true, Bool.true_eq_false, not_true_eq_false, not_false_eq_true, true_and, and_true, false_and, and_false, true_or, or_true, false_or, or_false, if_true, if_false, Int.reduceAdd, Int.reduceMul, Int.reduceSub, Int.reduceNeg, h1, R_9_0, R_9_8, R_9_10, R_9_15, R_9_19, R_9_23, C_9_5, R_147_0, R_147_4, R_147_7, R_147_15, R_147_19, R_147_25, R_147_33, R_147_43, R_147_55, R_147_63, R_147_74, R_147_90, R_147_106, R_147_119, C_147_1, C_147_71, cc_isKey, K_9_2, K_9_0, K_9_1]
    · simp (disch := first | omega | exact q_b_01 _) only [↓reduceIte, q_bk0, q_bk1, q_bk2, q_sg_b, q_b_0, q_b_n0, q_b_1, q_b_n1, q_b_T, q_b_F, q_sg_g, q_sg_sg, q_sg_xs, q_sg_id, q_gu_ne, q_gu_eq, q_g_fne, q_g_cpe, q_w_f, q_v_f, q_u_f, q_fn_f, q_cp_f, q_sg_pg, q_sg_hc, q_lt_t, q_lt_f, q_le_t, q_le_f, q_eq_t, q_eq_f, ne_eq, eq_self, Bool.false_eq_true, Bool.true_eq_false, not_true_eq_false, not_false_eq_true, true_and, and_true, false_and, and_false, true_or, or_true, false_or, or_false, if_true, if_false, Int.reduceAdd, Int.reduceMul, Int.reduceSub, Int.reduceNeg, h1', R_305_0, R_305_8, R_305_11, R_305_15, R_305_22, R_305_25, R_305_29, R_305_36, R_305_41, R_305_45, R_305_46, R_305_49, R_305_56, R_305_58, R_305_62, R_305_76, R_305_80, R_305_94, R_305_100, R_305_108, R_305_111, R_305_118, C_305_5, C_305_19, C_305_59, mm_isIn]
theorem op_forget (B : Big b s) : Op0 (Big b) (fun h => EV (d + 40) 148 0 [.ref 1, .null] [] h) (fun h => EV (d + 40) 306 0 [.ref 285, .null] [] h) L xs s O c := by
  have H := B.1.1
  have I := B.1.2.1
  have hn := rb_chg H
  have f7 : q_g (rmC s) 7 = q_g s 7 := act_f B (by omega) (by omega)
  have er := cc_rem (d := d + 36) (L := L) (xs := xs) (O := O) (c := c) B
  obtain ⟨t, m1, m2, m3, m4, m5⟩ := act_mm (d := d + 39) (L := L) (xs := xs) (O := O) (c := c) B (s2 := q_u (rmC s) 7 5 0) (fun k z hz hk => q_u_n (by omega))
  have uk : ∀ k z, 7 ≤ k → k ≤ 20 → ¬ (k = 7 ∧ z = 5) → q_g (q_u t 286 8 0) k z = q_g s k z := fun k z a1 a2 a3 => by
    rw [q_gu_ne (by omega), m3 k z (by omega) (by omega), q_gu_ne (by omega), act_f B (by omega) (by omega)]
  refine ⟨q_g s 286 8, q_u (rmC s) 7 5 0, q_u t 286 8 0, ?_, ?_, ?_⟩
  · simp (disch := first | omega | exact q_b_01 _) only [↓reduceIte, q_bk0, q_bk1, q_bk2, q_sg_b, q_b_0, q_b_n0, q_b_1, q_b_n1, q_b_T, q_b_F, q_sg_g, q_sg_sg, q_sg_xs, q_sg_id, q_gu_ne, q_gu_eq, q_g_fne, q_g_cpe, q_w_f, q_v_f, q_u_f, q_fn_f, q_cp_f, q_sg_pg, q_sg_hc, q_lt_t, q_lt_f, q_le_t, q_le_f, q_eq_t, q_eq_f, ne_eq, eq_self, Bool.false_eq_true, Bool.true_eq_false, not_true_eq_false, not_false_eq_true, true_and, and_true, false_and, and_false, true_or, or_true, false_or, or_false, if_true, if_false, Int.reduceAdd, Int.reduceMul, Int.reduceSub, Int.reduceNeg, f7, hn, R_148_0, R_148_11, R_148_27, C_148_8, er]
  · simp (disch := first | omega | exact q_b_01 _) only [↓reduceIte, q_bk0, q_bk1, q_bk2, q_sg_b, q_b_0, q_b_n0, q_b_1, q_b_n1, q_b_T, q_b_F, q_sg_g, q_sg_sg, q_sg_xs, q_sg_id, q_gu_ne, q_gu_eq, q_g_fne, q_g_cpe, q_w_f, q_v_f, q_u_f, q_fn_f, q_cp_f, q_sg_pg, q_sg_hc, q_lt_t, q_lt_f, q_le_t, q_le_f, q_eq_t, q_eq_f, ne_eq, eq_self, Bool.false_eq_true, Bool.true_eq_false, not_true_eq_false, not_false_eq_true, true_and, and_true, false_and, and_false, true_or, or_true, false_or, or_false, if_true, if_false, Int.reduceAdd, Int.reduceMul, Int.reduceSub, Int.reduceNeg, m2, R_306_0, R_306_5, R_306_9, R_306_16, R_306_25, C_306_6, m1]
  · have ez : ∀ z, z ≠ 8 → q_g (q_u t 286 8 0) 286 z = q_g s 286 z := fun z z1 => by rw [q_gu_ne (by omega), m2]
    have e8 : q_g (q_u t 286 8 0) 286 8 = 0 := by rw [q_gu_eq rfl]; rfl
    have u5 : q_g (q_u t 286 8 0) 7 5 = 0 := by rw [q_gu_ne (by omega), m3 7 5 (by omega) (by omega), q_gu_eq rfl]; rfl
    have hp : ∀ p w, 0 ≤ p → p < 48 → 0 ≤ w → w < 16 → pg (q_g (q_u t 286 8 0) 286) p w = pg (q_g s 286) p w := fun p w p0 p1 w0 w1 => ez _ (by omega)
    refine m5 _ b (Int.le_refl _) (fun k z hz hk => q_u_n (by omega)) (fun z hz => ez z (by omega)) ?_ ?_
    · refine RB_upd H I hp (fun k a1 a2 => funext fun z => uk k z (by omega) (by omega) (by omega)) (fun r r0 r1 => ?_) ?_ ?_ ?_
      · rw [uk 16 r (by omega) (by omega) (by omega), uk 17 r (by omega) (by omega) (by omega), ez _ (by omega), ez _ (by omega)]
        exact H.2.2.1 r r0 r1
      · rw [u5, e8]
        exact ⟨rfl, fun k k0 k1 => absurd k1 (by omega)⟩
      · rw [uk 7 6 (by omega) (by omega) (by omega), uk 7 7 (by omega) (by omega) (by omega), uk 7 8 (by omega) (by omega) (by omega), uk 7 9 (by omega) (by omega) (by omega), uk 7 10 (by omega) (by omega) (by omega), uk 7 12 (by omega) (by omega) (by omega), ez 3 (by omega), ez 4 (by omega), ez 5 (by omega), ez 7 (by omega), ez 0 (by omega), ez 6 (by omega)]
        exact H.2.2.2.2.1
      · rw [uk 7 13 (by omega) (by omega) (by omega), ez 6 (by omega)]
        refine ⟨H.2.2.2.2.2.1, fun a w a0 a1 w0 w1 => ?_⟩
        rw [uk 20 _ (by omega) (by omega) (by omega), ez _ (by omega)]
        exact H.2.2.2.2.2.2 a w a0 a1 w0 w1
    · refine Inv_upd I hp (fun r r0 r1 hv => ?_) (fun r r0 r1 => ?_) ?_ ?_
      · rw [ez _ (by omega)] at hv
        exact Or.inl ⟨hv, ez _ (by omega), ez _ (by omega)⟩
      · rw [ez _ (by omega)]
        exact I.2.2.2 r r0 r1
      · rw [e8]
        exact ⟨by omega, by omega, fun k k0 k1 => absurd k1 (by omega)⟩
      · rw [ez 0 (by omega), ez 3 (by omega), ez 4 (by omega), ez 5 (by omega), ez 6 (by omega)]
        exact I.2.2.1
theorem op_open (B : Big b s) {r : Int} (v1 : -2147483648 ≤ r) (v2 : r < 2147483648) : Op (Big b) (fun h => EV (d + 40) 13 0 [.ref 1, .int (q_I (r)), .ref 312, .null] [] h) (fun h => EV (d + 40) 311 0 [.ref 285, .int (q_I (r))] [] h) L xs s O c := by
  have H := B.1.1
  have I := B.1.2.1
  have Hd := inv_hd I
  have hc0 := chc_eq H Hd (w := 0) (by omega) (by omega)
  have hc1 := chc_eq H Hd (w := 1) (by omega) (by omega)
  have g0 := q_hc_rg s 286 0
  have g1 := q_hc_rg s 286 1
  have h01 := hd_01 (q_g s 286)
  have ib := I.1.2.2.2.1
  by_cases h1 : 0 ≤ r ∧ r < 4
  · have hv := rb_rv H h1.1 h1.2
    by_cases h2 : q_g s 286 (9 + 2 * r) = -1
    · have f16 : q_g (rmC s) 16 = q_g s 16 := act_f B (by omega) (by omega)
      have f9 : q_g (rmC s) 9 = q_g s 9 := act_f B (by omega) (by omega)
      have f15 : q_g (rmC s) 15 = q_g s 15 := act_f B (by omega) (by omega)
      have er := cc_rem (d := d + 35) (L := L) (xs := xs) (O := O) (c := c) B
      obtain ⟨t, m1, m2, m3, m4, m5⟩ := act_mm (d := d + 39) (L := L) (xs := xs) (O := vp_updL O 0 (q_I (hc (q_g s 286) 0)).toInt64) (c := c) B (s2 := q_u (q_u (rmC s) 16 r (hc (q_g s 286) 0)) 17 r (hc (q_g s 286) 1)) (fun k z hz hk => by rw [q_u_n (by omega), q_u_n (by omega)])
      have em : q_g t 286 = q_g s 286 := funext m2
      have uk : ∀ k z, 7 ≤ k → k ≤ 20 → ¬ ((k = 16 ∨ k = 17) ∧ z = r) → q_g (q_u (q_u t 286 (9 + 2 * r) (hc (q_g s 286) 0)) 286 (9 + 2 * r + 1) (hc (q_g s 286) 1)) k z = q_g s k z := fun k z a1 a2 a3 => by
        rw [q_gu_ne (by omega), q_gu_ne (by omega), m3 k z (by omega) (by omega), q_gu_ne (by omega), q_gu_ne (by omega), act_f B (by omega) (by omega)]
      have ez : ∀ z, z ≠ 9 + 2 * r → z ≠ 10 + 2 * r → q_g (q_u (q_u t 286 (9 + 2 * r) (hc (q_g s 286) 0)) 286 (9 + 2 * r + 1) (hc (q_g s 286) 1)) 286 z = q_g s 286 z := fun z z1 z2 => by rw [q_gu_ne (by omega), q_gu_ne (by omega), m2]
      have hp : ∀ p w, 0 ≤ p → p < 48 → 0 ≤ w → w < 16 → pg (q_g (q_u (q_u t 286 (9 + 2 * r) (hc (q_g s 286) 0)) 286 (9 + 2 * r + 1) (hc (q_g s 286) 1)) 286) p w = pg (q_g s 286) p w := fun p w p0 p1 w0 w1 => ez _ (by omega) (by omega)
      have hp1 : ∀ p w, 0 ≤ p → p < 48 → 0 ≤ w → w < 16 → pg (q_g (q_u t 286 (9 + 2 * r) (hc (q_g s 286) 0)) 286) p w = pg (q_g s 286) p w := fun p w p0 p1 w0 w1 => by
        rw [q_pg_u (by omega), em]
      have hh1 := hd_pg hp1
      have hv0 := hc_pg hp (w := 0) (by omega) (by omega)
      have hp7 : pg (q_g (q_u t 286 (9 + 2 * r) (hc (q_g s 286) 0)) 286) (hd (q_g s 286)) 5 = hc (q_g s 286) 1 := hp1 _ _ (by omega) (by omega) (by omega) (by omega)
      refine ⟨0, hc (q_g s 286) 0, q_u (q_u (rmC s) 16 r (hc (q_g s 286) 0)) 17 r (hc (q_g s 286) 1), q_u (q_u t 286 (9 + 2 * r) (hc (q_g s 286) 0)) 286 (9 + 2 * r + 1) (hc (q_g s 286) 1), vp_updL O 0 (q_I (hc (q_g s 286) 0)).toInt64, c, ?_, ?_, by omega, by omega, ?_, fun _ => rfl, Or.inl rfl, ?_⟩
      · simp (disch := first | omega | exact q_b_01 _) only [↓reduceIte, q_bk0, q_bk1, q_bk2, q_sg_b, q_b_0, q_b_n0, q_b_1, q_b_n1, q_b_T, q_b_F, q_sg_g, q_sg_sg, q_sg_xs, q_sg_id, q_gu_ne, q_gu_eq, q_g_fne, q_g_cpe, q_w_f, q_v_f, q_u_f, q_fn_f, q_cp_f, q_sg_pg, q_sg_hc, q_lt_t, q_lt_f, q_le_t, q_le_f, q_eq_t, q_eq_f, ne_eq, eq_self, Bool.false_eq_true, Bool.true_eq_false, not_true_eq_false, not_false_eq_true, true_and, and_true, false_and, and_false, true_or, or_true, false_or, or_false, if_true, if_false, Int.reduceAdd, Int.reduceMul, Int.reduceSub, Int.reduceNeg, f16, f9, f15, hv, h2, R_13_0, R_13_7, R_13_9, R_13_13, R_13_16, C_13_4, R_152_0, R_152_4, R_152_7, R_152_15, R_152_24, R_152_28, R_152_36, R_152_47, R_152_66, R_152_67, R_152_86, R_152_87, R_152_96, C_152_1, C_152_44, C_152_63, C_152_83, cc_isReader, cc_ofTheHead, hc0, hc1, er, q_lst, K_13_2, K_13_1]
      · simp (disch := first | omega | exact q_b_01 _) only [↓reduceIte, q_bk0, q_bk1, q_bk2, q_sg_b, q_b_0, q_b_n0, q_b_1, q_b_n1, q_b_T, q_b_F, q_sg_g, q_sg_sg, q_sg_xs, q_sg_id, q_gu_ne, q_gu_eq, q_g_fne, q_g_cpe, q_w_f, q_v_f, q_u_f, q_fn_f, q_cp_f, q_sg_pg, q_sg_hc, q_lt_t, q_lt_f, q_le_t, q_le_f, q_eq_t, q_eq_f, ne_eq, eq_self, Bool.false_eq_true, Bool.true_eq_false, not_true_eq_false, not_false_eq_true, true_and, and_true, false_and, and_false, true_or, or_true, false_or, or_false, if_true, if_false, Int.reduceAdd, Int.reduceMul, Int.reduceSub, Int.reduceNeg, act_f B, h2, em, hh1, hp7, q_uu_eq, R_311_0, R_311_7, R_311_10, R_311_14, R_311_15, R_311_18, R_311_25, R_311_27, R_311_33, R_311_36, R_311_40, R_311_41, R_311_44, R_311_51, R_311_53, R_311_57, R_311_71, R_311_72, R_311_89, R_311_93, R_311_94, R_311_98, C_311_4, C_311_30, C_311_54, C_311_68, C_311_86, C_311_90, C_311_95, mm_isIn, mm_isOpen, m1, mm_version, mm_theHead, mm_of, hv0]
      · rw [q_gu_ne (by omega), q_gu_ne (by omega), m4]
      · have e9 : q_g (q_u (q_u t 286 (9 + 2 * r) (hc (q_g s 286) 0)) 286 (9 + 2 * r + 1) (hc (q_g s 286) 1)) 286 (9 + 2 * r) = hc (q_g s 286) 0 := by rw [q_gu_ne (by omega), q_gu_eq rfl, q_sg_hc]
        have e10 : q_g (q_u (q_u t 286 (9 + 2 * r) (hc (q_g s 286) 0)) 286 (9 + 2 * r + 1) (hc (q_g s 286) 1)) 286 (10 + 2 * r) = hc (q_g s 286) 1 := by rw [q_gu_eq (by omega), q_sg_hc]
        have u16 : q_g (q_u (q_u t 286 (9 + 2 * r) (hc (q_g s 286) 0)) 286 (9 + 2 * r + 1) (hc (q_g s 286) 1)) 16 r = hc (q_g s 286) 0 := by rw [q_gu_ne (by omega), q_gu_ne (by omega), m3 16 _ (by omega) (by omega), q_gu_ne (by omega), q_gu_eq rfl, q_sg_hc]
        have u17 : q_g (q_u (q_u t 286 (9 + 2 * r) (hc (q_g s 286) 0)) 286 (9 + 2 * r + 1) (hc (q_g s 286) 1)) 17 r = hc (q_g s 286) 1 := by rw [q_gu_ne (by omega), q_gu_ne (by omega), m3 17 _ (by omega) (by omega), q_gu_eq rfl, q_sg_hc]
        refine m5 _ b (Int.le_refl _) (fun k z hz hk => by rw [q_u_n (by omega), q_u_n (by omega)]) (fun z hz => ez z (by omega) (by omega)) ?_ ?_
        · refine RB_upd H I hp (fun k a1 a2 => funext fun z => uk k z (by omega) (by omega) (by omega)) (fun r' r0 r1 => ?_) ?_ ?_ ?_
          · by_cases er' : r' = r
            · subst er'
              rw [u16, u17, e9, e10]
              exact ⟨rfl, fun _ => rfl, fun h => absurd h (by omega)⟩
            · rw [uk 16 r' (by omega) (by omega) (by omega), uk 17 r' (by omega) (by omega) (by omega), ez _ (by omega) (by omega), ez _ (by omega) (by omega)]
              exact H.2.2.1 r' r0 r1
          · rw [uk 7 5 (by omega) (by omega) (by omega), ez 8 (by omega) (by omega)]
            refine ⟨H.2.2.2.1.1, fun k k0 k1 => ?_⟩
            rw [uk 18 k (by omega) (by omega) (by omega), uk 19 k (by omega) (by omega) (by omega), ez _ (by omega) (by omega), ez _ (by omega) (by omega)]
            exact H.2.2.2.1.2 k k0 k1
          · rw [uk 7 6 (by omega) (by omega) (by omega), uk 7 7 (by omega) (by omega) (by omega), uk 7 8 (by omega) (by omega) (by omega), uk 7 9 (by omega) (by omega) (by omega), uk 7 10 (by omega) (by omega) (by omega), uk 7 12 (by omega) (by omega) (by omega), ez 3 (by omega) (by omega), ez 4 (by omega) (by omega), ez 5 (by omega) (by omega), ez 7 (by omega) (by omega), ez 0 (by omega) (by omega), ez 6 (by omega) (by omega)]
            exact H.2.2.2.2.1
          · rw [uk 7 13 (by omega) (by omega) (by omega), ez 6 (by omega) (by omega)]
            refine ⟨H.2.2.2.2.2.1, fun a w a0 a1 w0 w1 => ?_⟩
            rw [uk 20 _ (by omega) (by omega) (by omega), ez _ (by omega) (by omega)]
            exact H.2.2.2.2.2.2 a w a0 a1 w0 w1
        · refine Inv_upd I hp (fun r' r0 r1 hv' => ?_) (fun r' r0 r1 => ?_) ?_ ?_
          · by_cases er' : r' = r
            · subst er'
              exact Or.inr ⟨e9, e10⟩
            · rw [ez _ (by omega) (by omega)] at hv'
              exact Or.inl ⟨hv', ez _ (by omega) (by omega), ez _ (by omega) (by omega)⟩
          · by_cases er' : r' = r
            · subst er'
              rw [e9]
              omega
            · rw [ez _ (by omega) (by omega)]
              exact I.2.2.2 r' r0 r1
          · rw [ez 8 (by omega) (by omega)]
            refine ⟨I.2.1.1, I.2.1.2.1, fun k k0 k1 => ?_⟩
            rw [ez _ (by omega) (by omega), ez _ (by omega) (by omega)]
            exact I.2.1.2.2 k k0 k1
          · rw [ez 0 (by omega) (by omega), ez 3 (by omega) (by omega), ez 4 (by omega) (by omega), ez 5 (by omega) (by omega), ez 6 (by omega) (by omega)]
            exact I.2.2.1
    · refine ⟨2, 0, s, q_u s 285 0 2, O, q_th c, ?_, ?_, by omega, by omega, by simp (disch := first | omega | exact q_b_01 _) only [↓reduceIte, q_bk0, q_bk1, q_bk2, q_sg_b, q_b_0, q_b_n0, q_b_1, q_b_n1, q_b_T, q_b_F, q_sg_g, q_sg_sg, q_sg_xs, q_sg_id, q_gu_ne, q_gu_eq, q_g_fne, q_g_cpe, q_w_f, q_v_f, q_u_f, q_fn_f, q_cp_f, q_sg_pg, q_sg_hc, q_lt_t, q_lt_f, q_le_t, q_le_f, q_eq_t, q_eq_f, ne_eq, eq_self, Bool.false_eq_true, Bool.true_eq_false, not_true_eq_false, not_false_eq_true, true_and, and_true, false_and, and_false, true_or, or_true, false_or, or_false, if_true, if_false, Int.reduceAdd, Int.reduceMul, Int.reduceSub, Int.reduceNeg], by omega, Or.inr rfl, Big_sm B (Sm_u Sm_rfl (by unfold relz relc; omega))⟩
      · simp (disch := first | omega | exact q_b_01 _) only [↓reduceIte, q_bk0, q_bk1, q_bk2, q_sg_b, q_b_0, q_b_n0, q_b_1, q_b_n1, q_b_T, q_b_F, q_sg_g, q_sg_sg, q_sg_xs, q_sg_id, q_gu_ne, q_gu_eq, q_g_fne, q_g_cpe, q_w_f, q_v_f, q_u_f, q_fn_f, q_cp_f, q_sg_pg, q_sg_hc, q_lt_t, q_lt_f, q_le_t, q_le_f, q_eq_t, q_eq_f, ne_eq, eq_self, Bool.false_eq_true, Bool.true_eq_false, not_true_eq_false, not_false_eq_true, true_and, and_true, false_and, and_false, true_or, or_true, false_or, or_false, if_true, if_false, Int.reduceAdd, Int.reduceMul, Int.reduceSub, Int.reduceNeg, hv, h2, R_13_0, R_13_7, R_13_9, R_13_13, R_13_16, C_13_4, R_152_0, R_152_4, R_152_7, R_152_15, R_152_24, R_152_28, R_152_36, R_152_47, R_152_66, R_152_67, R_152_86, R_152_87, R_152_96, C_152_1, C_152_44, C_152_63, C_152_83, cc_isReader, K_13_2, K_13_1]
      · simp (disch := first | omega | exact q_b_01 _) only [↓reduceIte, q_bk0, q_bk1, q_bk2, q_sg_b, q_b_0, q_b_n0, q_b_1, q_b_n1, q_b_T, q_b_F, q_sg_g, q_sg_sg, q_sg_xs, q_sg_id, q_gu_ne, q_gu_eq, q_g_fne, q_g_cpe, q_w_f, q_v_f, q_u_f, q_fn_f, q_cp_f, q_sg_pg, q_sg_hc, q_lt_t, q_lt_f, q_le_t, q_le_f, q_eq_t, q_eq_f, ne_eq, eq_self, Bool.false_eq_true, Bool.true_eq_false, not_true_eq_false, not_false_eq_true, true_and, and_true, false_and, and_false, true_or, or_true, false_or, or_false, if_true, if_false, Int.reduceAdd, Int.reduceMul, Int.reduceSub, Int.reduceNeg, h2, q_uu_eq, R_311_0, R_311_7, R_311_10, R_311_14, R_311_15, R_311_18, R_311_25, R_311_27, R_311_33, R_311_36, R_311_40, R_311_41, R_311_44, R_311_51, R_311_53, R_311_57, R_311_71, R_311_72, R_311_89, R_311_93, R_311_94, R_311_98, C_311_4, C_311_30, C_311_54, C_311_68, C_311_86, C_311_90, C_311_95, mm_isIn, mm_isOpen]
  · have h1' : ¬ (0 ≤ r ∧ r ≤ 3) := by omega
    refine ⟨1, 0, s, q_u s 285 0 1, O, q_th c, ?_, ?_, by omega, by omega, by simp (disch := first | omega | exact q_b_01 _) only [↓reduceIte, q_bk0, q_bk1, q_bk2, q_sg_b, q_b_0, q_b_n0, q_b_1, q_b_n1, q_b_T, q_b_F, q_sg_g, q_sg_sg, q_sg_xs, q_sg_id, q_gu_ne, q_gu_eq, q_g_fne, q_g_cpe, q_w_f, q_v_f, q_u_f, q_fn_f, q_cp_f, q_sg_pg, q_sg_hc, q_lt_t, q_lt_f, q_le_t, q_le_f, q_eq_t, q_eq_f, ne_eq, eq_self, Bool.false_eq_true, Bool.true_eq_false, not_true_eq_false, not_false_eq_true, true_and, and_true, false_and, and_false, true_or, or_true, false_or, or_false, if_true, if_false, Int.reduceAdd, Int.reduceMul, Int.reduceSub, Int.reduceNeg], by omega, Or.inr rfl, Big_sm B (Sm_u Sm_rfl (by unfold relz relc; omega))⟩
    · simp (disch := first | omega | exact q_b_01 _) only [↓reduceIte, q_bk0, q_bk1, q_bk2, q_sg_b, q_b_0, q_b_n0, q_b_1, q_b_n1, q_b_T, q_b_F, q_sg_g, q_sg_sg, q_sg_xs, q_sg_id, q_gu_ne, q_gu_eq, q_g_fne, q_g_cpe, q_w_f, q_v_f, q_u_f, q_fn_f, q_cp_f, q_sg_pg, q_sg_hc, q_lt_t, q_lt_f, q_le_t, q_le_f, q_eq_t, q_eq_f, ne_eq, eq_self, Bool.false_eq_true, Bool.true_eq_false, not_true_eq_false, not_false_eq_true, true_and, and_true, false_and, and_false, true_or, or_true, false_or, or_false, if_true, if_false, Int.reduceAdd, Int.reduceMul, Int.reduceSub, Int.reduceNeg, h1, R_13_0, R_13_7, R_13_9, R_13_13, R_13_16, C_13_4, R_152_0, R_152_4, R_152_7, R_152_15, R_152_24, R_152_28, R_152_36, R_152_47, R_152_66, R_152_67, R_152_86, R_152_87, R_152_96, C_152_1, C_152_44, C_152_63, C_152_83, cc_isReader, K_13_2, K_13_1]
    · simp (disch := first | omega | exact q_b_01 _) only [↓reduceIte, q_bk0, q_bk1, q_bk2, q_sg_b, q_b_0, q_b_n0, q_b_1, q_b_n1, q_b_T, q_b_F, q_sg_g, q_sg_sg, q_sg_xs, q_sg_id, q_gu_ne, q_gu_eq, q_g_fne, q_g_cpe, q_w_f, q_v_f, q_u_f, q_fn_f, q_cp_f, q_sg_pg, q_sg_hc, q_lt_t, q_lt_f, q_le_t, q_le_f, q_eq_t, q_eq_f, ne_eq, eq_self, Bool.false_eq_true, Bool.true_eq_false, not_true_eq_false, not_false_eq_true, true_and, and_true, false_and, and_false, true_or, or_true, false_or, or_false, if_true, if_false, Int.reduceAdd, Int.reduceMul, Int.reduceSub, Int.reduceNeg, h1', R_311_0, R_311_7, R_311_10, R_311_14, R_311_15, R_311_18, R_311_25, R_311_27, R_311_33, R_311_36, R_311_40, R_311_41, R_311_44, R_311_51, R_311_53, R_311_57, R_311_71, R_311_72, R_311_89, R_311_93, R_311_94, R_311_98, C_311_4, C_311_30, C_311_54, C_311_68, C_311_86, C_311_90, C_311_95, mm_isIn]
theorem op_close (B : Big b s) {r : Int} (v1 : -2147483648 ≤ r) (v2 : r < 2147483648) : Op (Big b) (fun h => EV (d + 40) 14 0 [.ref 1, .int (q_I (r)), .ref 312, .null] [] h) (fun h => EV (d + 40) 312 0 [.ref 285, .int (q_I (r)), .null] [] h) L xs s O c := by
  have H := B.1.1
  have I := B.1.2.1
  by_cases h1 : 0 ≤ r ∧ r < 4
  · have hv := rb_rv H h1.1 h1.2
    by_cases h2 : q_g s 286 (9 + 2 * r) = -1
    · refine ⟨2, 0, s, q_u s 285 0 2, O, q_th c, ?_, ?_, by omega, by omega, by simp (disch := first | omega | exact q_b_01 _) only [↓reduceIte, q_bk0, q_bk1, q_bk2, q_sg_b, q_b_0, q_b_n0, q_b_1, q_b_n1, q_b_T, q_b_F, q_sg_g, q_sg_sg, q_sg_xs, q_sg_id, q_gu_ne, q_gu_eq, q_g_fne, q_g_cpe, q_w_f, q_v_f, q_u_f, q_fn_f, q_cp_f, q_sg_pg, q_sg_hc, q_lt_t, q_lt_f, q_le_t, q_le_f, q_eq_t, q_eq_f, ne_eq, eq_self, Bool.false_eq_true, Bool.true_eq_false, not_true_eq_false, not_false_eq_true, true_and, and_true, false_and, and_false, true_or, or_true, false_or, or_false, if_true, if_false, Int.reduceAdd, Int.reduceMul, Int.reduceSub, Int.reduceNeg], by omega, Or.inr rfl, Big_sm B (Sm_u Sm_rfl (by unfold relz relc; omega))⟩
      · simp (disch := first | omega | exact q_b_01 _) only [↓reduceIte, q_bk0, q_bk1, q_bk2, q_sg_b, q_b_0, q_b_n0, q_b_1, q_b_n1, q_b_T, q_b_F, q_sg_g, q_sg_sg, q_sg_xs, q_sg_id, q_gu_ne, q_gu_eq, q_g_fne, q_g_cpe, q_w_f, q_v_f, q_u_f, q_fn_f, q_cp_f, q_sg_pg, q_sg_hc, q_lt_t, q_lt_f, q_le_t, q_le_f, q_eq_t, q_eq_f, ne_eq, eq_self, Bool.false_eq_true, Bool.true_eq_false, not_true_eq_false, not_false_eq_true, true_and, and_true, false_and, and_false, true_or, or_true, false_or, or_false, if_true, if_false, Int.reduceAdd, Int.reduceMul, Int.reduceSub, Int.reduceNeg, hv, h2, R_14_0, R_14_7, R_14_9, R_14_13, R_14_16, C_14_4, R_153_0, R_153_4, R_153_7, R_153_15, R_153_24, R_153_28, R_153_36, R_153_47, R_153_56, R_153_67, R_153_77, C_153_1, C_153_44, cc_isReader, K_14_2, K_14_1]
      · simp (disch := first | omega | exact q_b_01 _) only [↓reduceIte, q_bk0, q_bk1, q_bk2, q_sg_b, q_b_0, q_b_n0, q_b_1, q_b_n1, q_b_T, q_b_F, q_sg_g, q_sg_sg, q_sg_xs, q_sg_id, q_gu_ne, q_gu_eq, q_g_fne, q_g_cpe, q_w_f, q_v_f, q_u_f, q_fn_f, q_cp_f, q_sg_pg, q_sg_hc, q_lt_t, q_lt_f, q_le_t, q_le_f, q_eq_t, q_eq_f, ne_eq, eq_self, Bool.false_eq_true, Bool.true_eq_false, not_true_eq_false, not_false_eq_true, true_and, and_true, false_and, and_false, true_or, or_true, false_or, or_false, if_true, if_false, Int.reduceAdd, Int.reduceMul, Int.reduceSub, Int.reduceNeg, h2, q_uu_eq, R_312_0, R_312_7, R_312_10, R_312_14, R_312_15, R_312_18, R_312_25, R_312_27, R_312_33, R_312_36, R_312_40, R_312_41, R_312_44, R_312_51, R_312_53, R_312_57, R_312_68, R_312_81, C_312_4, C_312_30, C_312_54, mm_isIn, mm_isOpen]
    · have f16 : q_g (rmC s) 16 = q_g s 16 := act_f B (by omega) (by omega)
      have er := cc_rem (d := d + 35) (L := L) (xs := xs) (O := O) (c := c) B
      obtain ⟨t, m1, m2, m3, m4, m5⟩ := act_mm (d := d + 39) (L := L) (xs := xs) (O := vp_updL O 0 (q_I (q_g s 286 (9 + 2 * r))).toInt64) (c := c) B (s2 := q_u (q_u (rmC s) 16 r (-1)) 17 r (-1)) (fun k z hz hk => by rw [q_u_n (by omega), q_u_n (by omega)])
      have uk : ∀ k z, 7 ≤ k → k ≤ 20 → ¬ ((k = 16 ∨ k = 17) ∧ z = r) → q_g (q_u t 286 (9 + 2 * r) (-1)) k z = q_g s k z := fun k z a1 a2 a3 => by
        rw [q_gu_ne (by omega), m3 k z (by omega) (by omega), q_gu_ne (by omega), q_gu_ne (by omega), act_f B (by omega) (by omega)]
      refine ⟨0, q_g s 286 (9 + 2 * r), q_u (q_u (rmC s) 16 r (-1)) 17 r (-1), q_u t 286 (9 + 2 * r) (-1), vp_updL O 0 (q_I (q_g s 286 (9 + 2 * r))).toInt64, c, ?_, ?_, by omega, by omega, ?_, fun _ => rfl, Or.inl rfl, ?_⟩
      · simp (disch := first | omega | exact q_b_01 _) only [↓reduceIte, q_bk0, q_bk1, q_bk2, q_sg_b, q_b_0, q_b_n0, q_b_1, q_b_n1, q_b_T, q_b_F, q_sg_g, q_sg_sg, q_sg_xs, q_sg_id, q_gu_ne, q_gu_eq, q_g_fne, q_g_cpe, q_w_f, q_v_f, q_u_f, q_fn_f, q_cp_f, q_sg_pg, q_sg_hc, q_lt_t, q_lt_f, q_le_t, q_le_f, q_eq_t, q_eq_f, ne_eq, eq_self, Bool.false_eq_true, Bool.true_eq_false, not_true_eq_false, not_false_eq_true, true_and, and_true, false_and, and_false, true_or, or_true, false_or, or_false, if_true, if_false, Int.reduceAdd, Int.reduceMul, Int.reduceSub, Int.reduceNeg, f16, hv, h2, R_14_0, R_14_7, R_14_9, R_14_13, R_14_16, C_14_4, R_153_0, R_153_4, R_153_7, R_153_15, R_153_24, R_153_28, R_153_36, R_153_47, R_153_56, R_153_67, R_153_77, C_153_1, C_153_44, cc_isReader, er, q_lst, K_14_2, K_14_1]
      · simp (disch := first | omega | exact q_b_01 _) only [↓reduceIte, q_bk0, q_bk1, q_bk2, q_sg_b, q_b_0, q_b_n0, q_b_1, q_b_n1, q_b_T, q_b_F, q_sg_g, q_sg_sg, q_sg_xs, q_sg_id, q_gu_ne, q_gu_eq, q_g_fne, q_g_cpe, q_w_f, q_v_f, q_u_f, q_fn_f, q_cp_f, q_sg_pg, q_sg_hc, q_lt_t, q_lt_f, q_le_t, q_le_f, q_eq_t, q_eq_f, ne_eq, eq_self, Bool.false_eq_true, Bool.true_eq_false, not_true_eq_false, not_false_eq_true, true_and, and_true, false_and, and_false, true_or, or_true, false_or, or_false, if_true, if_false, Int.reduceAdd, Int.reduceMul, Int.reduceSub, Int.reduceNeg, act_f B, h2, m2, q_uu_eq, R_312_0, R_312_7, R_312_10, R_312_14, R_312_15, R_312_18, R_312_25, R_312_27, R_312_33, R_312_36, R_312_40, R_312_41, R_312_44, R_312_51, R_312_53, R_312_57, R_312_68, R_312_81, C_312_4, C_312_30, C_312_54, mm_isIn, mm_isOpen, m1]
      · rw [q_gu_ne (by omega), m4]
      · have ez : ∀ z, z ≠ 9 + 2 * r → q_g (q_u t 286 (9 + 2 * r) (-1)) 286 z = q_g s 286 z := fun z z1 => by rw [q_gu_ne (by omega), m2]
        have e9 : q_g (q_u t 286 (9 + 2 * r) (-1)) 286 (9 + 2 * r) = -1 := by rw [q_gu_eq rfl]; rfl
        have u16 : q_g (q_u t 286 (9 + 2 * r) (-1)) 16 r = -1 := by rw [q_gu_ne (by omega), m3 16 _ (by omega) (by omega), q_gu_ne (by omega), q_gu_eq rfl]; rfl
        have u17 : q_g (q_u t 286 (9 + 2 * r) (-1)) 17 r = -1 := by rw [q_gu_ne (by omega), m3 17 _ (by omega) (by omega), q_gu_eq rfl]; rfl
        have hp : ∀ p w, 0 ≤ p → p < 48 → 0 ≤ w → w < 16 → pg (q_g (q_u t 286 (9 + 2 * r) (-1)) 286) p w = pg (q_g s 286) p w := fun p w p0 p1 w0 w1 => ez _ (by omega)
        refine m5 _ b (Int.le_refl _) (fun k z hz hk => q_u_n (by omega)) (fun z hz => ez z (by omega)) ?_ ?_
        · refine RB_upd H I hp (fun k a1 a2 => funext fun z => uk k z (by omega) (by omega) (by omega)) (fun r' r0 r1 => ?_) ?_ ?_ ?_
          · by_cases er' : r' = r
            · subst er'
              rw [u16, u17, e9]
              exact ⟨rfl, fun h => absurd rfl h, fun _ => rfl⟩
            · rw [uk 16 r' (by omega) (by omega) (by omega), uk 17 r' (by omega) (by omega) (by omega), ez _ (by omega), ez _ (by omega)]
              exact H.2.2.1 r' r0 r1
          · rw [uk 7 5 (by omega) (by omega) (by omega), ez 8 (by omega)]
            refine ⟨H.2.2.2.1.1, fun k k0 k1 => ?_⟩
            rw [uk 18 k (by omega) (by omega) (by omega), uk 19 k (by omega) (by omega) (by omega), ez _ (by omega), ez _ (by omega)]
            exact H.2.2.2.1.2 k k0 k1
          · rw [uk 7 6 (by omega) (by omega) (by omega), uk 7 7 (by omega) (by omega) (by omega), uk 7 8 (by omega) (by omega) (by omega), uk 7 9 (by omega) (by omega) (by omega), uk 7 10 (by omega) (by omega) (by omega), uk 7 12 (by omega) (by omega) (by omega), ez 3 (by omega), ez 4 (by omega), ez 5 (by omega), ez 7 (by omega), ez 0 (by omega), ez 6 (by omega)]
            exact H.2.2.2.2.1
          · rw [uk 7 13 (by omega) (by omega) (by omega), ez 6 (by omega)]
            refine ⟨H.2.2.2.2.2.1, fun a w a0 a1 w0 w1 => ?_⟩
            rw [uk 20 _ (by omega) (by omega) (by omega), ez _ (by omega)]
            exact H.2.2.2.2.2.2 a w a0 a1 w0 w1
        · refine Inv_upd I hp (fun r' r0 r1 hv' => ?_) (fun r' r0 r1 => ?_) ?_ ?_
          · by_cases er' : r' = r
            · subst er'
              exact absurd e9 hv'
            · rw [ez _ (by omega)] at hv'
              exact Or.inl ⟨hv', ez _ (by omega), ez _ (by omega)⟩
          · by_cases er' : r' = r
            · subst er'
              rw [e9]
              omega
            · rw [ez _ (by omega)]
              exact I.2.2.2 r' r0 r1
          · rw [ez 8 (by omega)]
            refine ⟨I.2.1.1, I.2.1.2.1, fun k k0 k1 => ?_⟩
            rw [ez _ (by omega), ez _ (by omega)]
            exact I.2.1.2.2 k k0 k1
          · rw [ez 0 (by omega), ez 3 (by omega), ez 4 (by omega), ez 5 (by omega), ez 6 (by omega)]
            exact I.2.2.1
  · have h1' : ¬ (0 ≤ r ∧ r ≤ 3) := by omega
    refine ⟨1, 0, s, q_u s 285 0 1, O, q_th c, ?_, ?_, by omega, by omega, by simp (disch := first | omega | exact q_b_01 _) only [↓reduceIte, q_bk0, q_bk1, q_bk2, q_sg_b, q_b_0, q_b_n0, q_b_1, q_b_n1, q_b_T, q_b_F, q_sg_g, q_sg_sg, q_sg_xs, q_sg_id, q_gu_ne, q_gu_eq, q_g_fne, q_g_cpe, q_w_f, q_v_f, q_u_f, q_fn_f, q_cp_f, q_sg_pg, q_sg_hc, q_lt_t, q_lt_f, q_le_t, q_le_f, q_eq_t, q_eq_f, ne_eq, eq_self, Bool.false_eq_true, Bool.true_eq_false, not_true_eq_false, not_false_eq_true, true_and, and_true, false_and, and_false, true_or, or_true, false_or, or_false, if_true, if_false, Int.reduceAdd, Int.reduceMul, Int.reduceSub, Int.reduceNeg], by omega, Or.inr rfl, Big_sm B (Sm_u Sm_rfl (by unfold relz relc; omega))⟩
    · simp (disch := first | omega | exact q_b_01 _) only [↓reduceIte, q_bk0, q_bk1, q_bk2, q_sg_b, q_b_0, q_b_n0, q_b_1, q_b_n1, q_b_T, q_b_F, q_sg_g, q_sg_sg, q_sg_xs, q_sg_id, q_gu_ne, q_gu_eq, q_g_fne, q_g_cpe, q_w_f, q_v_f, q_u_f, q_fn_f, q_cp_f, q_sg_pg, q_sg_hc, q_lt_t, q_lt_f, q_le_t, q_le_f, q_eq_t, q_eq_f, ne_eq, eq_self, Bool.false_eq_true, Bool.true_eq_false, not_true_eq_false, not_false_eq_true, true_and, and_true, false_and, and_false, true_or, or_true, false_or, or_false, if_true, if_false, Int.reduceAdd, Int.reduceMul, Int.reduceSub, Int.reduceNeg, h1, R_14_0, R_14_7, R_14_9, R_14_13, R_14_16, C_14_4, R_153_0, R_153_4, R_153_7, R_153_15, R_153_24, R_153_28, R_153_36, R_153_47, R_153_56, R_153_67, R_153_77, C_153_1, C_153_44, cc_isReader, K_14_2, K_14_1]
    · simp (disch := first | omega | exact q_b_01 _) only [↓reduceIte, q_bk0, q_bk1, q_bk2, q_sg_b, q_b_0, q_b_n0, q_b_1, q_b_n1, q_b_T, q_b_F, q_sg_g, q_sg_sg, q_sg_xs, q_sg_id, q_gu_ne, q_gu_eq, q_g_fne, q_g_cpe, q_w_f, q_v_f, q_u_f, q_fn_f, q_cp_f, q_sg_pg, q_sg_hc, q_lt_t, q_lt_f, q_le_t, q_le_f, q_eq_t, q_eq_f, ne_eq, eq_self, Bool.false_eq_true, Bool.true_eq_false, not_true_eq_false, not_false_eq_true, true_and, and_true, false_and, and_false, true_or, or_true, false_or, or_false, if_true, if_false, Int.reduceAdd, Int.reduceMul, Int.reduceSub, Int.reduceNeg, h1', R_312_0, R_312_7, R_312_10, R_312_14, R_312_15, R_312_18, R_312_25, R_312_27, R_312_33, R_312_36, R_312_40, R_312_41, R_312_44, R_312_51, R_312_53, R_312_57, R_312_68, R_312_81, C_312_4, C_312_30, C_312_54, mm_isIn]
end AO2
