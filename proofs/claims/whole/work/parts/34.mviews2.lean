/-! THE REFERENCE: views, all of them -/
section MV2
variable {d L : Nat} {xs : Nat → Int32} {s : Nat → Int → Int32} {O : Nat → Int64} {c : Bool × Nat × Nat}
variable {top : Int} {Lv : Int → Prop} {ht : Int → Nat} {n : Nat} {r : Int}
theorem mm_marks (T : TD (q_g s 286) top Lv ht n r) (h48 : top ≤ 48) {b : Int} : ∀ (h d : Nat) {p : Int} (W : Int → Int32), Lv p → ht p = h → ∃ W', EV (d + h + 1) 290 0 [.ref 285, .int (q_I (p)), .int (q_I (b)), .null] [] (q_h L xs (q_v s 307 0 48 W) O c) = some (.inl none, q_h L xs (q_v s 307 0 48 W') O c) ∧ (∀ q, Inn (q_g s 286) h p q → W' q = q_I (q_or (W q).toInt b)) ∧ ∀ q, ¬ Inn (q_g s 286) h p q → W' q = W q
  | 0, d, p, W, a, e0 => by
    have R := td_rng T a
    have e := td_lk T a e0
    simp (disch := first | omega | exact q_b_01 _) only [↓reduceIte, q_bk0, q_bk1, q_bk2, q_sg_b, q_b_0, q_b_n0, q_b_1, q_b_n1, q_b_T, q_b_F, q_sg_g, q_sg_sg, q_sg_xs, q_sg_id, q_gu_ne, q_gu_eq, q_g_fne, q_g_cpe, q_w_f, q_v_f, q_u_f, q_fn_f, q_cp_f, q_sg_pg, q_sg_hc, q_lt_t, q_lt_f, q_le_t, q_le_f, q_eq_t, q_eq_f, ne_eq, eq_self, Bool.false_eq_true, Bool.true_eq_false, not_true_eq_false, not_false_eq_true, true_and, and_true, false_and, and_false, true_or, or_true, false_or, or_false, if_true, if_false, Int.reduceAdd, Int.reduceMul, Int.reduceSub, Int.reduceNeg, R_290_0, R_290_5, R_290_6, R_290_13, R_290_16, R_290_25, R_290_28, R_290_34, R_290_38, R_290_48, R_290_52, R_290_58, C_290_22, C_290_31, C_290_45, C_290_49, q_v_g0, q_v_u0]
    rw [R_290_18]
    simp (disch := first | omega | exact q_b_01 _) only [↓reduceIte, q_bk0, q_bk1, q_bk2, q_sg_b, q_b_0, q_b_n0, q_b_1, q_b_n1, q_b_T, q_b_F, q_sg_g, q_sg_sg, q_sg_xs, q_sg_id, q_gu_ne, q_gu_eq, q_g_fne, q_g_cpe, q_w_f, q_v_f, q_u_f, q_fn_f, q_cp_f, q_sg_pg, q_sg_hc, q_lt_t, q_lt_f, q_le_t, q_le_f, q_eq_t, q_eq_f, ne_eq, eq_self, Bool.false_eq_true, Bool.true_eq_false, not_true_eq_false, not_false_eq_true, true_and, and_true, false_and, and_false, true_or, or_true, false_or, or_false, if_true, if_false, Int.reduceAdd, Int.reduceMul, Int.reduceSub, Int.reduceNeg, R_290_0, R_290_5, R_290_6, R_290_13, R_290_16, R_290_25, R_290_28, R_290_34, R_290_38, R_290_48, R_290_52, R_290_58, C_290_22, C_290_31, C_290_45, C_290_49, mm_of, e]
    refine ⟨_, rfl, fun q hq => ?_, fun q hq => ?_⟩
    · have : q = p := hq
      subst this
      exact if_pos rfl
    · exact if_neg hq
  | h + 1, d, p, W, a, e0 => by
    have R := td_rng T a
    have e := td_bk T a (by omega)
    rw [← Nat.add_assoc]
    simp (disch := first | omega | exact q_b_01 _) only [↓reduceIte, q_bk0, q_bk1, q_bk2, q_sg_b, q_b_0, q_b_n0, q_b_1, q_b_n1, q_b_T, q_b_F, q_sg_g, q_sg_sg, q_sg_xs, q_sg_id, q_gu_ne, q_gu_eq, q_g_fne, q_g_cpe, q_w_f, q_v_f, q_u_f, q_fn_f, q_cp_f, q_sg_pg, q_sg_hc, q_lt_t, q_lt_f, q_le_t, q_le_f, q_eq_t, q_eq_f, ne_eq, eq_self, Bool.false_eq_true, Bool.true_eq_false, not_true_eq_false, not_false_eq_true, true_and, and_true, false_and, and_false, true_or, or_true, false_or, or_false, if_true, if_false, Int.reduceAdd, Int.reduceMul, Int.reduceSub, Int.reduceNeg, R_290_0, R_290_5, R_290_6, R_290_13, R_290_16, R_290_25, R_290_28, R_290_34, R_290_38, R_290_48, R_290_52, R_290_58, C_290_22, C_290_31, C_290_45, C_290_49, q_v_g0, q_v_u0]
    obtain ⟨t, e1, e2, e3⟩ := q_for (fun j W => EV (d + h + 1 + 1) 290 18 [.ref 285, .int (q_I (p)), .int (q_I (b)), .int (q_I (j))] [] (q_h L xs (q_v s 307 0 48 W) O c)) (fun j W' => (∀ q, (q = p ∨ ∃ k, 0 ≤ k ∧ k < j ∧ Inn (q_g s 286) h (pg (q_g s 286) p (10 + k)) q) → W' q = q_I (q_or (W q).toInt b)) ∧ ∀ q, ¬ (q = p ∨ ∃ k, 0 ≤ k ∧ k < j ∧ Inn (q_g s 286) h (pg (q_g s 286) p (10 + k)) q) → W' q = W q) (lo := 0) (hi := pg (q_g s 286) p 1) (by omega) (fun j W1 h1 h2 ⟨p1, p2⟩ => by
      obtain ⟨c1, c2⟩ := td_bc T a (by omega) h1 h2
      obtain ⟨W2, i1, i2, i3⟩ := mm_marks T h48 (b := b) h d W1 c1 (by omega)
      refine ⟨W2, ?_, fun q hq => ?_, fun q hq => ?_⟩
      · rw [R_290_18]
        simp (disch := first | omega | exact q_b_01 _) only [↓reduceIte, q_bk0, q_bk1, q_bk2, q_sg_b, q_b_0, q_b_n0, q_b_1, q_b_n1, q_b_T, q_b_F, q_sg_g, q_sg_sg, q_sg_xs, q_sg_id, q_gu_ne, q_gu_eq, q_g_fne, q_g_cpe, q_w_f, q_v_f, q_u_f, q_fn_f, q_cp_f, q_sg_pg, q_sg_hc, q_lt_t, q_lt_f, q_le_t, q_le_f, q_eq_t, q_eq_f, ne_eq, eq_self, Bool.false_eq_true, Bool.true_eq_false, not_true_eq_false, not_false_eq_true, true_and, and_true, false_and, and_false, true_or, or_true, false_or, or_false, if_true, if_false, Int.reduceAdd, Int.reduceMul, Int.reduceSub, Int.reduceNeg, R_290_0, R_290_5, R_290_6, R_290_13, R_290_16, R_290_25, R_290_28, R_290_34, R_290_38, R_290_48, R_290_52, R_290_58, C_290_22, C_290_31, C_290_45, C_290_49, mm_of, e, i1]
      · by_cases hj : Inn (q_g s 286) h (pg (q_g s 286) p (10 + j)) q
        · rw [i2 q hj, p2 q]
          rintro (e' | ⟨k, k1, k2, k3⟩)
          · subst e'
            exact td_nself T a (by omega) h1 h2 hj
          · exact td_sib T a (by omega) k1 (by omega) h1 h2 (by omega) k3 hj
        · rw [i3 q hj]
          refine p1 q ?_
          rcases hq with e' | ⟨k, k1, k2, k3⟩
          · exact Or.inl e'
          · refine Or.inr ⟨k, k1, ?_, k3⟩
            rcases Int.lt_or_eq_of_le (show k ≤ j by omega) with h' | h'
            · exact h'
            · exact absurd (h' ▸ k3) hj
      · rw [i3 q (fun hj => hq (Or.inr ⟨j, h1, by omega, hj⟩))]
        exact p2 q (fun h' => hq (h'.imp id (fun ⟨k, k1, k2, k3⟩ => ⟨k, k1, by omega, k3⟩)))) (t := fun y => if y = p then q_I (q_or (W p).toInt b) else W y) (by
      refine ⟨fun q hq => ?_, fun q hq => ?_⟩
      · rcases hq with e' | ⟨k, k1, k2, _⟩
        · subst e'
          exact if_pos rfl
        · omega
      · exact if_neg (fun e' => hq (Or.inl e')))
    refine ⟨t, ?_, e2, e3⟩
    refine Eq.trans e1 ?_
    rw [R_290_18]
    simp (disch := first | omega | exact q_b_01 _) only [↓reduceIte, q_bk0, q_bk1, q_bk2, q_sg_b, q_b_0, q_b_n0, q_b_1, q_b_n1, q_b_T, q_b_F, q_sg_g, q_sg_sg, q_sg_xs, q_sg_id, q_gu_ne, q_gu_eq, q_g_fne, q_g_cpe, q_w_f, q_v_f, q_u_f, q_fn_f, q_cp_f, q_sg_pg, q_sg_hc, q_lt_t, q_lt_f, q_le_t, q_le_f, q_eq_t, q_eq_f, ne_eq, eq_self, Bool.false_eq_true, Bool.true_eq_false, not_true_eq_false, not_false_eq_true, true_and, and_true, false_and, and_false, true_or, or_true, false_or, or_false, if_true, if_false, Int.reduceAdd, Int.reduceMul, Int.reduceSub, Int.reduceNeg, R_290_0, R_290_5, R_290_6, R_290_13, R_290_16, R_290_25, R_290_28, R_290_34, R_290_38, R_290_48, R_290_52, R_290_58, C_290_22, C_290_31, C_290_45, C_290_49, mm_of]
theorem mm_depthOf (T : TD (q_g s 286) top Lv ht n r) (h48 : top ≤ 48) : ∀ (h : Nat) {p : Int} (x y z : Int), Lv p → ht p = h → EV (d + 1) 295 4 [.ref 285, .int (q_I (x)), .int (q_I (y)), .int (q_I (p))] [] (q_h L xs s O c) = some (.inl (some (.int (q_I (y + (h + 1))))), q_h L xs (s) O c)
  | 0, p, x, y, z, a, b => by
    have R := td_rng T a
    have e := td_lk T a b
    rw [R_295_4]
    simp (disch := first | omega | exact q_b_01 _) only [↓reduceIte, q_bk0, q_bk1, q_bk2, q_sg_b, q_b_0, q_b_n0, q_b_1, q_b_n1, q_b_T, q_b_F, q_sg_g, q_sg_sg, q_sg_xs, q_sg_id, q_gu_ne, q_gu_eq, q_g_fne, q_g_cpe, q_w_f, q_v_f, q_u_f, q_fn_f, q_cp_f, q_sg_pg, q_sg_hc, q_lt_t, q_lt_f, q_le_t, q_le_f, q_eq_t, q_eq_f, ne_eq, eq_self, Bool.false_eq_true, Bool.true_eq_false, not_true_eq_false, not_false_eq_true, true_and, and_true, false_and, and_false, true_or, or_true, false_or, or_false, if_true, if_false, Int.reduceAdd, Int.reduceMul, Int.reduceSub, Int.reduceNeg, R_295_0, R_295_9, R_295_18, R_295_22, R_295_29, R_295_32, R_295_33, R_295_37, C_295_15, C_295_26, mm_of, e]
    rw [R_295_4]
    simp (disch := first | omega | exact q_b_01 _) only [↓reduceIte, q_bk0, q_bk1, q_bk2, q_sg_b, q_b_0, q_b_n0, q_b_1, q_b_n1, q_b_T, q_b_F, q_sg_g, q_sg_sg, q_sg_xs, q_sg_id, q_gu_ne, q_gu_eq, q_g_fne, q_g_cpe, q_w_f, q_v_f, q_u_f, q_fn_f, q_cp_f, q_sg_pg, q_sg_hc, q_lt_t, q_lt_f, q_le_t, q_le_f, q_eq_t, q_eq_f, ne_eq, eq_self, Bool.false_eq_true, Bool.true_eq_false, not_true_eq_false, not_false_eq_true, true_and, and_true, false_and, and_false, true_or, or_true, false_or, or_false, if_true, if_false, Int.reduceAdd, Int.reduceMul, Int.reduceSub, Int.reduceNeg, R_295_0, R_295_9, R_295_18, R_295_22, R_295_29, R_295_32, R_295_33, R_295_37, C_295_15, C_295_26, mm_of, e]
    rfl
  | h + 1, p, x, y, z, a, b => by
    have R := td_rng T a
    have e := td_bk T a (by omega)
    obtain ⟨c1, c2⟩ := td_bc T a (by omega) (Int.le_refl 0) (show 0 < pg (q_g s 286) p 1 by omega)
    rw [show (10 : Int) + 0 = 10 from rfl] at c1 c2
    rw [R_295_4]
    simp (disch := first | omega | exact q_b_01 _) only [↓reduceIte, q_bk0, q_bk1, q_bk2, q_sg_b, q_b_0, q_b_n0, q_b_1, q_b_n1, q_b_T, q_b_F, q_sg_g, q_sg_sg, q_sg_xs, q_sg_id, q_gu_ne, q_gu_eq, q_g_fne, q_g_cpe, q_w_f, q_v_f, q_u_f, q_fn_f, q_cp_f, q_sg_pg, q_sg_hc, q_lt_t, q_lt_f, q_le_t, q_le_f, q_eq_t, q_eq_f, ne_eq, eq_self, Bool.false_eq_true, Bool.true_eq_false, not_true_eq_false, not_false_eq_true, true_and, and_true, false_and, and_false, true_or, or_true, false_or, or_false, if_true, if_false, Int.reduceAdd, Int.reduceMul, Int.reduceSub, Int.reduceNeg, R_295_0, R_295_9, R_295_18, R_295_22, R_295_29, R_295_32, R_295_33, R_295_37, C_295_15, C_295_26, mm_of, e]
    rw [mm_depthOf T h48 h x (y + 1) z c1 (by omega)]
    refine q_Ri ?_
    omega
theorem mm_keysOfR {Lv : Int → Prop} {r : Int} (T : TreeD (q_g s 286) 48 Lv r) : EV (d + 13) 294 0 [.ref 285, .int (q_I (r)), .null, .null] [] (q_h L xs s O c) = some (.inl (some (.int (q_I (KC (q_g s 286) r)))), q_h L xs (s) O c) := by
  rcases T with ⟨e, -⟩ | ⟨n, ht, hb, hn, T, -, -⟩
  · subst e
    simp (disch := first | omega | exact q_b_01 _) only [↓reduceIte, q_bk0, q_bk1, q_bk2, q_sg_b, q_b_0, q_b_n0, q_b_1, q_b_n1, q_b_T, q_b_F, q_sg_g, q_sg_sg, q_sg_xs, q_sg_id, q_gu_ne, q_gu_eq, q_g_fne, q_g_cpe, q_w_f, q_v_f, q_u_f, q_fn_f, q_cp_f, q_sg_pg, q_sg_hc, q_lt_t, q_lt_f, q_le_t, q_le_f, q_eq_t, q_eq_f, ne_eq, eq_self, Bool.false_eq_true, Bool.true_eq_false, not_true_eq_false, not_false_eq_true, true_and, and_true, false_and, and_false, true_or, or_true, false_or, or_false, if_true, if_false, Int.reduceAdd, Int.reduceMul, Int.reduceSub, Int.reduceNeg, R_294_0, R_294_5, R_294_7, R_294_13, R_294_17, R_294_23, R_294_24, R_294_35, R_294_38, R_294_52, R_294_60, C_294_10, C_294_20, C_294_32, C_294_46, C_294_49, KC]
  · have R := td_rng T (td_root T).1
    have := mm_keysOf (L := L) (xs := xs) (O := O) (c := c) T (by omega) n (d + (12 - n)) (td_root T).1 (td_root T).2
    rw [show d + (12 - n) + n + 1 = d + 13 by omega] at this
    rw [this]
    unfold KC
    rw [if_neg (by omega), cn_kc T n 13 (td_root T).1 (td_root T).2 (by omega)]
theorem mm_depthOfR {Lv : Int → Prop} {r : Int} (T : TreeD (q_g s 286) 48 Lv r) : EV (d + 1) 295 0 [.ref 285, .int (q_I (r)), .null, .null] [] (q_h L xs s O c) = some (.inl (some (.int (q_I (DP (q_g s 286) r)))), q_h L xs (s) O c) := by
  rcases T with ⟨e, -⟩ | ⟨n, ht, hb, hn, T, -, -⟩
  · subst e
    simp (disch := first | omega | exact q_b_01 _) only [↓reduceIte, q_bk0, q_bk1, q_bk2, q_sg_b, q_b_0, q_b_n0, q_b_1, q_b_n1, q_b_T, q_b_F, q_sg_g, q_sg_sg, q_sg_xs, q_sg_id, q_gu_ne, q_gu_eq, q_g_fne, q_g_cpe, q_w_f, q_v_f, q_u_f, q_fn_f, q_cp_f, q_sg_pg, q_sg_hc, q_lt_t, q_lt_f, q_le_t, q_le_f, q_eq_t, q_eq_f, ne_eq, eq_self, Bool.false_eq_true, Bool.true_eq_false, not_true_eq_false, not_false_eq_true, true_and, and_true, false_and, and_false, true_or, or_true, false_or, or_false, if_true, if_false, Int.reduceAdd, Int.reduceMul, Int.reduceSub, Int.reduceNeg, R_295_0, R_295_9, R_295_18, R_295_22, R_295_29, R_295_32, R_295_33, R_295_37, C_295_15, C_295_26, DP]
    rw [R_295_4]
    simp (disch := first | omega | exact q_b_01 _) only [↓reduceIte, q_bk0, q_bk1, q_bk2, q_sg_b, q_b_0, q_b_n0, q_b_1, q_b_n1, q_b_T, q_b_F, q_sg_g, q_sg_sg, q_sg_xs, q_sg_id, q_gu_ne, q_gu_eq, q_g_fne, q_g_cpe, q_w_f, q_v_f, q_u_f, q_fn_f, q_cp_f, q_sg_pg, q_sg_hc, q_lt_t, q_lt_f, q_le_t, q_le_f, q_eq_t, q_eq_f, ne_eq, eq_self, Bool.false_eq_true, Bool.true_eq_false, not_true_eq_false, not_false_eq_true, true_and, and_true, false_and, and_false, true_or, or_true, false_or, or_false, if_true, if_false, Int.reduceAdd, Int.reduceMul, Int.reduceSub, Int.reduceNeg, R_295_0, R_295_9, R_295_18, R_295_22, R_295_29, R_295_32, R_295_33, R_295_37, C_295_15, C_295_26, DP]
  · have R := td_rng T (td_root T).1
    simp (disch := first | omega | exact q_b_01 _) only [↓reduceIte, q_bk0, q_bk1, q_bk2, q_sg_b, q_b_0, q_b_n0, q_b_1, q_b_n1, q_b_T, q_b_F, q_sg_g, q_sg_sg, q_sg_xs, q_sg_id, q_gu_ne, q_gu_eq, q_g_fne, q_g_cpe, q_w_f, q_v_f, q_u_f, q_fn_f, q_cp_f, q_sg_pg, q_sg_hc, q_lt_t, q_lt_f, q_le_t, q_le_f, q_eq_t, q_eq_f, ne_eq, eq_self, Bool.false_eq_true, Bool.true_eq_false, not_true_eq_false, not_false_eq_true, true_and, and_true, false_and, and_false, true_or, or_true, false_or, or_false, if_true, if_false, Int.reduceAdd, Int.reduceMul, Int.reduceSub, Int.reduceNeg, R_295_0, R_295_9, R_295_18, R_295_22, R_295_29, R_295_32, R_295_33, R_295_37, C_295_15, C_295_26]
    rw [mm_depthOf T (by omega) n r 0 0 (td_root T).1 (td_root T).2]
    unfold DP
    rw [if_neg (by omega), cn_dp T n 13 (td_root T).1 (td_root T).2 (by omega)]
    refine q_Ri ?_
    omega
theorem mm_openMany : EV (d + 1) 225 0 [.ref 285, .null, .null] [] (q_h L xs s O c) = some (.inl (some (.int (q_I (q_S (fun r => q_b (q_g s 286 (9 + 2 * r) ≠ -1)) 0 4)))), q_h L xs (s) O c) := by
  simp (disch := first | omega | exact q_b_01 _) only [↓reduceIte, q_bk0, q_bk1, q_bk2, q_sg_b, q_b_0, q_b_n0, q_b_1, q_b_n1, q_b_T, q_b_F, q_sg_g, q_sg_sg, q_sg_xs, q_sg_id, q_gu_ne, q_gu_eq, q_g_fne, q_g_cpe, q_w_f, q_v_f, q_u_f, q_fn_f, q_cp_f, q_sg_pg, q_sg_hc, q_lt_t, q_lt_f, q_le_t, q_le_f, q_eq_t, q_eq_f, ne_eq, eq_self, Bool.false_eq_true, Bool.true_eq_false, not_true_eq_false, not_false_eq_true, true_and, and_true, false_and, and_false, true_or, or_true, false_or, or_false, if_true, if_false, Int.reduceAdd, Int.reduceMul, Int.reduceSub, Int.reduceNeg, R_225_0, R_225_9, R_225_15, R_225_18, R_225_22, R_225_23, R_225_31, C_225_12]
  refine (q_sm (fun j x => EV (d + 1) 225 4 [.ref 285, .int (q_I (x)), .int (q_I (j))] [] (q_h L xs s O c)) (fun r => q_b (q_g s 286 (9 + 2 * r) ≠ -1)) (lo := 0) (hi := 4) (by omega) (fun j x h1 h2 => ?_)).trans ?_
  · rw [R_225_4]
    simp (disch := first | omega | exact q_b_01 _) only [↓reduceIte, q_bk0, q_bk1, q_bk2, q_sg_b, q_b_0, q_b_n0, q_b_1, q_b_n1, q_b_T, q_b_F, q_sg_g, q_sg_sg, q_sg_xs, q_sg_id, q_gu_ne, q_gu_eq, q_g_fne, q_g_cpe, q_w_f, q_v_f, q_u_f, q_fn_f, q_cp_f, q_sg_pg, q_sg_hc, q_lt_t, q_lt_f, q_le_t, q_le_f, q_eq_t, q_eq_f, ne_eq, eq_self, Bool.false_eq_true, Bool.true_eq_false, not_true_eq_false, not_false_eq_true, true_and, and_true, false_and, and_false, true_or, or_true, false_or, or_false, if_true, if_false, Int.reduceAdd, Int.reduceMul, Int.reduceSub, Int.reduceNeg, R_225_0, R_225_9, R_225_15, R_225_18, R_225_22, R_225_23, R_225_31, C_225_12, mm_isOpen]
    by_cases h : q_g s 286 (9 + 2 * j) = -1
    · simp (disch := first | omega | exact q_b_01 _) only [↓reduceIte, q_bk0, q_bk1, q_bk2, q_sg_b, q_b_0, q_b_n0, q_b_1, q_b_n1, q_b_T, q_b_F, q_sg_g, q_sg_sg, q_sg_xs, q_sg_id, q_gu_ne, q_gu_eq, q_g_fne, q_g_cpe, q_w_f, q_v_f, q_u_f, q_fn_f, q_cp_f, q_sg_pg, q_sg_hc, q_lt_t, q_lt_f, q_le_t, q_le_f, q_eq_t, q_eq_f, ne_eq, eq_self, Bool.false_eq_true, Bool.true_eq_false, not_true_eq_false, not_false_eq_true, true_and, and_true, false_and, and_false, true_or, or_true, false_or, or_false, if_true, if_false, Int.reduceAdd, Int.reduceMul, Int.reduceSub, Int.reduceNeg, R_225_0, R_225_9, R_225_15, R_225_18, R_225_22, R_225_23, R_225_31, C_225_12, h]
    · simp (disch := first | omega | exact q_b_01 _) only [↓reduceIte, q_bk0, q_bk1, q_bk2, q_sg_b, q_b_0, q_b_n0, q_b_1, q_b_n1, q_b_T, q_b_F, q_sg_g, q_sg_sg, q_sg_xs, q_sg_id, q_gu_ne, q_gu_eq, q_g_fne, q_g_cpe, q_w_f, q_v_f, q_u_f, q_fn_f, q_cp_f, q_sg_pg, q_sg_hc, q_lt_t, q_lt_f, q_le_t, q_le_f, q_eq_t, q_eq_f, ne_eq, eq_self, Bool.false_eq_true, Bool.true_eq_false, not_true_eq_false, not_false_eq_true, true_and, and_true, false_and, and_false, true_or, or_true, false_or, or_false, if_true, if_false, Int.reduceAdd, Int.reduceMul, Int.reduceSub, Int.reduceNeg, R_225_0, R_225_9, R_225_15, R_225_18, R_225_22, R_225_23, R_225_31, C_225_12, h]
  · rw [R_225_4]
    simp (disch := first | omega | exact q_b_01 _) only [↓reduceIte, q_bk0, q_bk1, q_bk2, q_sg_b, q_b_0, q_b_n0, q_b_1, q_b_n1, q_b_T, q_b_F, q_sg_g, q_sg_sg, q_sg_xs, q_sg_id, q_gu_ne, q_gu_eq, q_g_fne, q_g_cpe, q_w_f, q_v_f, q_u_f, q_fn_f, q_cp_f, q_sg_pg, q_sg_hc, q_lt_t, q_lt_f, q_le_t, q_le_f, q_eq_t, q_eq_f, ne_eq, eq_self, Bool.false_eq_true, Bool.true_eq_false, not_true_eq_false, not_false_eq_true, true_and, and_true, false_and, and_false, true_or, or_true, false_or, or_false, if_true, if_false, Int.reduceAdd, Int.reduceMul, Int.reduceSub, Int.reduceNeg, R_225_0, R_225_9, R_225_15, R_225_18, R_225_22, R_225_23, R_225_31, C_225_12]
theorem mm_wearOfAll : EV (d + 1) 297 0 [.ref 285, .null, .null] [] (q_h L xs s O c) = some (.inl (some (.int (q_I (q_S (fun p => pg (q_g s 286) p 2) 0 48)))), q_h L xs (s) O c) := by
  simp (disch := first | omega | exact q_b_01 _) only [↓reduceIte, q_bk0, q_bk1, q_bk2, q_sg_b, q_b_0, q_b_n0, q_b_1, q_b_n1, q_b_T, q_b_F, q_sg_g, q_sg_sg, q_sg_xs, q_sg_id, q_gu_ne, q_gu_eq, q_g_fne, q_g_cpe, q_w_f, q_v_f, q_u_f, q_fn_f, q_cp_f, q_sg_pg, q_sg_hc, q_lt_t, q_lt_f, q_le_t, q_le_f, q_eq_t, q_eq_f, ne_eq, eq_self, Bool.false_eq_true, Bool.true_eq_false, not_true_eq_false, not_false_eq_true, true_and, and_true, false_and, and_false, true_or, or_true, false_or, or_false, if_true, if_false, Int.reduceAdd, Int.reduceMul, Int.reduceSub, Int.reduceNeg, R_297_0, R_297_10, R_297_17, R_297_25, C_297_14]
  refine (q_sm (fun j x => EV (d + 1) 297 4 [.ref 285, .int (q_I (x)), .int (q_I (j))] [] (q_h L xs s O c)) (fun p => pg (q_g s 286) p 2) (lo := 0) (hi := 48) (by omega) (fun j x h1 h2 => ?_)).trans ?_
  · rw [R_297_4]
    simp (disch := first | omega | exact q_b_01 _) only [↓reduceIte, q_bk0, q_bk1, q_bk2, q_sg_b, q_b_0, q_b_n0, q_b_1, q_b_n1, q_b_T, q_b_F, q_sg_g, q_sg_sg, q_sg_xs, q_sg_id, q_gu_ne, q_gu_eq, q_g_fne, q_g_cpe, q_w_f, q_v_f, q_u_f, q_fn_f, q_cp_f, q_sg_pg, q_sg_hc, q_lt_t, q_lt_f, q_le_t, q_le_f, q_eq_t, q_eq_f, ne_eq, eq_self, Bool.false_eq_true, Bool.true_eq_false, not_true_eq_false, not_false_eq_true, true_and, and_true, false_and, and_false, true_or, or_true, false_or, or_false, if_true, if_false, Int.reduceAdd, Int.reduceMul, Int.reduceSub, Int.reduceNeg, R_297_0, R_297_10, R_297_17, R_297_25, C_297_14, mm_of]
  · rw [R_297_4]
    simp (disch := first | omega | exact q_b_01 _) only [↓reduceIte, q_bk0, q_bk1, q_bk2, q_sg_b, q_b_0, q_b_n0, q_b_1, q_b_n1, q_b_T, q_b_F, q_sg_g, q_sg_sg, q_sg_xs, q_sg_id, q_gu_ne, q_gu_eq, q_g_fne, q_g_cpe, q_w_f, q_v_f, q_u_f, q_fn_f, q_cp_f, q_sg_pg, q_sg_hc, q_lt_t, q_lt_f, q_le_t, q_le_f, q_eq_t, q_eq_f, ne_eq, eq_self, Bool.false_eq_true, Bool.true_eq_false, not_true_eq_false, not_false_eq_true, true_and, and_true, false_and, and_false, true_or, or_true, false_or, or_false, if_true, if_false, Int.reduceAdd, Int.reduceMul, Int.reduceSub, Int.reduceNeg, R_297_0, R_297_10, R_297_17, R_297_25, C_297_14]
end MV2
