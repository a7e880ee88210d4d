/-! THE REFERENCE: views -/
section MV
variable {d L : Nat} {xs : Nat → Int32} {s : Nat → Int → Int32} {O : Nat → Int64} {c : Bool × Nat × Nat}
variable {top : Int} {Lv : Int → Prop} {ht : Int → Nat} {n : Nat} {r : Int}
theorem mm_keysOf (T : TD (q_g s 286) top Lv ht n r) (h48 : top ≤ 48) : ∀ (h d : Nat) {p : Int}, Lv p → ht p = h → EV (d + h + 1) 294 0 [.ref 285, .int (q_I (p)), .null, .null] [] (q_h L xs s O c) = some (.inl (some (.int (q_I (kc (q_g s 286) h p)))), q_h L xs (s) O c)
  | 0, d, p, a, b => by
    have R := td_rng T a
    have e := td_lk T a b
    simp (disch := first | omega | exact q_b_01 _) only [↓reduceIte, q_bk0, q_bk1, q_bk2, q_sg_b, q_b_0, q_b_n0, q_b_1, q_b_n1, q_b_T, q_b_F, q_sg_g, q_sg_sg, q_sg_xs, q_sg_id, q_gu_ne, q_gu_eq, q_g_fne, q_g_cpe, q_w_f, q_v_f, q_u_f, q_fn_f, q_cp_f, q_sg_pg, q_sg_hc, q_lt_t, q_lt_f, q_le_t, q_le_f, q_eq_t, q_eq_f, ne_eq, eq_self, Bool.false_eq_true, Bool.true_eq_false, not_true_eq_false, not_false_eq_true, true_and, and_true, false_and, and_false, true_or, or_true, false_or, or_false, if_true, if_false, Int.reduceAdd, Int.reduceMul, Int.reduceSub, Int.reduceNeg, R_294_0, R_294_5, R_294_7, R_294_13, R_294_17, R_294_23, R_294_24, R_294_35, R_294_38, R_294_52, R_294_60, C_294_10, C_294_20, C_294_32, C_294_46, C_294_49, mm_of, e]
    rfl
  | h + 1, d, p, a, b => by
    have R := td_rng T a
    have e := td_bk T a (by omega)
    rw [← Nat.add_assoc]
    simp (disch := first | omega | exact q_b_01 _) only [↓reduceIte, q_bk0, q_bk1, q_bk2, q_sg_b, q_b_0, q_b_n0, q_b_1, q_b_n1, q_b_T, q_b_F, q_sg_g, q_sg_sg, q_sg_xs, q_sg_id, q_gu_ne, q_gu_eq, q_g_fne, q_g_cpe, q_w_f, q_v_f, q_u_f, q_fn_f, q_cp_f, q_sg_pg, q_sg_hc, q_lt_t, q_lt_f, q_le_t, q_le_f, q_eq_t, q_eq_f, ne_eq, eq_self, Bool.false_eq_true, Bool.true_eq_false, not_true_eq_false, not_false_eq_true, true_and, and_true, false_and, and_false, true_or, or_true, false_or, or_false, if_true, if_false, Int.reduceAdd, Int.reduceMul, Int.reduceSub, Int.reduceNeg, R_294_0, R_294_5, R_294_7, R_294_13, R_294_17, R_294_23, R_294_24, R_294_35, R_294_38, R_294_52, R_294_60, C_294_10, C_294_20, C_294_32, C_294_46, C_294_49, mm_of, e]
    refine (q_sm (fun j x => EV (d + h + 1 + 1) 294 28 [.ref 285, .int (q_I (p)), .int (q_I (x)), .int (q_I (j))] [] (q_h L xs s O c)) (fun k => kc (q_g s 286) h (pg (q_g s 286) p (10 + k))) (lo := 0) (hi := pg (q_g s 286) p 1) (by omega) (fun j x h1 h2 => ?_)).trans ?_
    · obtain ⟨c1, c2⟩ := td_bc T a (by omega) h1 h2
      have ih := mm_keysOf T h48 h d c1 (by omega)
      rw [R_294_28]
      simp (disch := first | omega | exact q_b_01 _) only [↓reduceIte, q_bk0, q_bk1, q_bk2, q_sg_b, q_b_0, q_b_n0, q_b_1, q_b_n1, q_b_T, q_b_F, q_sg_g, q_sg_sg, q_sg_xs, q_sg_id, q_gu_ne, q_gu_eq, q_g_fne, q_g_cpe, q_w_f, q_v_f, q_u_f, q_fn_f, q_cp_f, q_sg_pg, q_sg_hc, q_lt_t, q_lt_f, q_le_t, q_le_f, q_eq_t, q_eq_f, ne_eq, eq_self, Bool.false_eq_true, Bool.true_eq_false, not_true_eq_false, not_false_eq_true, true_and, and_true, false_and, and_false, true_or, or_true, false_or, or_false, if_true, if_false, Int.reduceAdd, Int.reduceMul, Int.reduceSub, Int.reduceNeg, R_294_0, R_294_5, R_294_7, R_294_13, R_294_17, R_294_23, R_294_24, R_294_35, R_294_38, R_294_52, R_294_60, C_294_10, C_294_20, C_294_32, C_294_46, C_294_49, mm_of, ih]
    · rw [R_294_28]
      simp (disch := first | omega | exact q_b_01 _) only [↓reduceIte, q_bk0, q_bk1, q_bk2, q_sg_b, q_b_0, q_b_n0, q_b_1, q_b_n1, q_b_T, q_b_F, q_sg_g, q_sg_sg, q_sg_xs, q_sg_id, q_gu_ne, q_gu_eq, q_g_fne, q_g_cpe, q_w_f, q_v_f, q_u_f, q_fn_f, q_cp_f, q_sg_pg, q_sg_hc, q_lt_t, q_lt_f, q_le_t, q_le_f, q_eq_t, q_eq_f, ne_eq, eq_self, Bool.false_eq_true, Bool.true_eq_false, not_true_eq_false, not_false_eq_true, true_and, and_true, false_and, and_false, true_or, or_true, false_or, or_false, if_true, if_false, Int.reduceAdd, Int.reduceMul, Int.reduceSub, Int.reduceNeg, R_294_0, R_294_5, R_294_7, R_294_13, R_294_17, R_294_23, R_294_24, R_294_35, R_294_38, R_294_52, R_294_60, C_294_10, C_294_20, C_294_32, C_294_46, C_294_49, mm_of]
      rfl
theorem mm_fills (T : TD (q_g s 286) top Lv ht n r) (h48 : top ≤ 48) {f : Int} (f0 : 0 ≤ f) (f1 : f ≤ 400) : ∀ (h d : Nat) {p : Int} (V : Int → Int32), Lv p → ht p = h → EV (d + h + 1) 292 0 [.ref 285, .int (q_I (p)), .int (q_I (f)), .null] [] (q_h L xs (q_v s 308 f 100 V) O c) = some (.inl none, q_h L xs (q_v s 308 f 100 (VF (q_g s 286) h p V)) O c)
  | 0, d, p, V, a, b => by
    have R := td_rng T a
    have e := td_lk T a b
    simp (disch := first | omega | exact q_b_01 _) only [↓reduceIte, q_bk0, q_bk1, q_bk2, q_sg_b, q_b_0, q_b_n0, q_b_1, q_b_n1, q_b_T, q_b_F, q_sg_g, q_sg_sg, q_sg_xs, q_sg_id, q_gu_ne, q_gu_eq, q_g_fne, q_g_cpe, q_w_f, q_v_f, q_u_f, q_fn_f, q_cp_f, q_sg_pg, q_sg_hc, q_lt_t, q_lt_f, q_le_t, q_le_f, q_eq_t, q_eq_f, ne_eq, eq_self, Bool.false_eq_true, Bool.true_eq_false, not_true_eq_false, not_false_eq_true, true_and, and_true, false_and, and_false, true_or, or_true, false_or, or_false, if_true, if_false, Int.reduceAdd, Int.reduceMul, Int.reduceSub, Int.reduceNeg, R_292_0, R_292_5, R_292_6, R_292_15, R_292_18, R_292_24, R_292_28, R_292_38, R_292_42, R_292_45, R_292_58, R_292_68, R_292_69, R_292_75, C_292_12, C_292_21, C_292_35, C_292_39, C_292_55, C_292_65]
    obtain ⟨t, e1, e2⟩ := q_for (fun j W => EV (d + 0 + 1) 292 8 [.ref 285, .int (q_I (p)), .int (q_I (f)), .int (q_I (j))] [] (q_h L xs (q_v s 308 f 100 W) O c)) (fun j W => W = q_it (fun k V z => if z = pg (q_g s 286) p (4 + k) then q_I (pg (q_g s 286) p (10 + k)) else V z) j.toNat V) (lo := 0) (hi := pg (q_g s 286) p 1) (by omega) (fun j W h1 h2 eW => by
      refine ⟨_, ?_, (q_it_1 _ h1 V).symm⟩
      have A := td_la T a b h1 h2
      rw [← eW, R_292_8]
      simp (disch := first | omega | exact q_b_01 _) only [↓reduceIte, q_bk0, q_bk1, q_bk2, q_sg_b, q_b_0, q_b_n0, q_b_1, q_b_n1, q_b_T, q_b_F, q_sg_g, q_sg_sg, q_sg_xs, q_sg_id, q_gu_ne, q_gu_eq, q_g_fne, q_g_cpe, q_w_f, q_v_f, q_u_f, q_fn_f, q_cp_f, q_sg_pg, q_sg_hc, q_lt_t, q_lt_f, q_le_t, q_le_f, q_eq_t, q_eq_f, ne_eq, eq_self, Bool.false_eq_true, Bool.true_eq_false, not_true_eq_false, not_false_eq_true, true_and, and_true, false_and, and_false, true_or, or_true, false_or, or_false, if_true, if_false, Int.reduceAdd, Int.reduceMul, Int.reduceSub, Int.reduceNeg, R_292_0, R_292_5, R_292_6, R_292_15, R_292_18, R_292_24, R_292_28, R_292_38, R_292_42, R_292_45, R_292_58, R_292_68, R_292_69, R_292_75, C_292_12, C_292_21, C_292_35, C_292_39, C_292_55, C_292_65, mm_of, e, q_v_u]) (t := V) rfl
    rw [e1, R_292_8]
    simp (disch := first | omega | exact q_b_01 _) only [↓reduceIte, q_bk0, q_bk1, q_bk2, q_sg_b, q_b_0, q_b_n0, q_b_1, q_b_n1, q_b_T, q_b_F, q_sg_g, q_sg_sg, q_sg_xs, q_sg_id, q_gu_ne, q_gu_eq, q_g_fne, q_g_cpe, q_w_f, q_v_f, q_u_f, q_fn_f, q_cp_f, q_sg_pg, q_sg_hc, q_lt_t, q_lt_f, q_le_t, q_le_f, q_eq_t, q_eq_f, ne_eq, eq_self, Bool.false_eq_true, Bool.true_eq_false, not_true_eq_false, not_false_eq_true, true_and, and_true, false_and, and_false, true_or, or_true, false_or, or_false, if_true, if_false, Int.reduceAdd, Int.reduceMul, Int.reduceSub, Int.reduceNeg, R_292_0, R_292_5, R_292_6, R_292_15, R_292_18, R_292_24, R_292_28, R_292_38, R_292_42, R_292_45, R_292_58, R_292_68, R_292_69, R_292_75, C_292_12, C_292_21, C_292_35, C_292_39, C_292_55, C_292_65, mm_of]
    rw [e2]
    rfl
  | h + 1, d, p, V, a, b => by
    have R := td_rng T a
    have e := td_bk T a (by omega)
    rw [← Nat.add_assoc]
    simp (disch := first | omega | exact q_b_01 _) only [↓reduceIte, q_bk0, q_bk1, q_bk2, q_sg_b, q_b_0, q_b_n0, q_b_1, q_b_n1, q_b_T, q_b_F, q_sg_g, q_sg_sg, q_sg_xs, q_sg_id, q_gu_ne, q_gu_eq, q_g_fne, q_g_cpe, q_w_f, q_v_f, q_u_f, q_fn_f, q_cp_f, q_sg_pg, q_sg_hc, q_lt_t, q_lt_f, q_le_t, q_le_f, q_eq_t, q_eq_f, ne_eq, eq_self, Bool.false_eq_true, Bool.true_eq_false, not_true_eq_false, not_false_eq_true, true_and, and_true, false_and, and_false, true_or, or_true, false_or, or_false, if_true, if_false, Int.reduceAdd, Int.reduceMul, Int.reduceSub, Int.reduceNeg, R_292_0, R_292_5, R_292_6, R_292_15, R_292_18, R_292_24, R_292_28, R_292_38, R_292_42, R_292_45, R_292_58, R_292_68, R_292_69, R_292_75, C_292_12, C_292_21, C_292_35, C_292_39, C_292_55, C_292_65]
    obtain ⟨t, e1, e2⟩ := q_for (fun j W => EV (d + h + 1 + 1) 292 8 [.ref 285, .int (q_I (p)), .int (q_I (f)), .int (q_I (j))] [] (q_h L xs (q_v s 308 f 100 W) O c)) (fun j W => W = q_it (fun k V => VF (q_g s 286) h (pg (q_g s 286) p (10 + k)) V) j.toNat V) (lo := 0) (hi := pg (q_g s 286) p 1) (by omega) (fun j W h1 h2 eW => by
      refine ⟨_, ?_, (q_it_1 _ h1 V).symm⟩
      obtain ⟨c1, c2⟩ := td_bc T a (by omega) h1 h2
      have ih := mm_fills T h48 f0 f1 h d W c1 (by omega)
      rw [← eW, R_292_8]
      simp (disch := first | omega | exact q_b_01 _) only [↓reduceIte, q_bk0, q_bk1, q_bk2, q_sg_b, q_b_0, q_b_n0, q_b_1, q_b_n1, q_b_T, q_b_F, q_sg_g, q_sg_sg, q_sg_xs, q_sg_id, q_gu_ne, q_gu_eq, q_g_fne, q_g_cpe, q_w_f, q_v_f, q_u_f, q_fn_f, q_cp_f, q_sg_pg, q_sg_hc, q_lt_t, q_lt_f, q_le_t, q_le_f, q_eq_t, q_eq_f, ne_eq, eq_self, Bool.false_eq_true, Bool.true_eq_false, not_true_eq_false, not_false_eq_true, true_and, and_true, false_and, and_false, true_or, or_true, false_or, or_false, if_true, if_false, Int.reduceAdd, Int.reduceMul, Int.reduceSub, Int.reduceNeg, R_292_0, R_292_5, R_292_6, R_292_15, R_292_18, R_292_24, R_292_28, R_292_38, R_292_42, R_292_45, R_292_58, R_292_68, R_292_69, R_292_75, C_292_12, C_292_21, C_292_35, C_292_39, C_292_55, C_292_65, mm_of, e, ih]) (t := V) rfl
    rw [e1, R_292_8]
    simp (disch := first | omega | exact q_b_01 _) only [↓reduceIte, q_bk0, q_bk1, q_bk2, q_sg_b, q_b_0, q_b_n0, q_b_1, q_b_n1, q_b_T, q_b_F, q_sg_g, q_sg_sg, q_sg_xs, q_sg_id, q_gu_ne, q_gu_eq, q_g_fne, q_g_cpe, q_w_f, q_v_f, q_u_f, q_fn_f, q_cp_f, q_sg_pg, q_sg_hc, q_lt_t, q_lt_f, q_le_t, q_le_f, q_eq_t, q_eq_f, ne_eq, eq_self, Bool.false_eq_true, Bool.true_eq_false, not_true_eq_false, not_false_eq_true, true_and, and_true, false_and, and_false, true_or, or_true, false_or, or_false, if_true, if_false, Int.reduceAdd, Int.reduceMul, Int.reduceSub, Int.reduceNeg, R_292_0, R_292_5, R_292_6, R_292_15, R_292_18, R_292_24, R_292_28, R_292_38, R_292_42, R_292_45, R_292_58, R_292_68, R_292_69, R_292_75, C_292_12, C_292_21, C_292_35, C_292_39, C_292_55, C_292_65, mm_of]
    rw [e2]
    rfl
end MV
