/-! THE LAW'S ROUND: what is left of it -/
theorem xs_rg (xs : Nat → Int32) (z : Int) : -2147483648 ≤ q_xs xs z ∧ q_xs xs z < 2147483648 := ⟨(xs z.toNat).le_toInt, (xs z.toNat).toInt_lt⟩
theorem q_lc_self (x : Int64) : q_lc x x = 0 := by
  unfold q_lc lg_cmp
  simp
theorem q_I64_0 : (q_I 0).toInt64 = Int64.ofNat 0 := by decide +kernel
theorem q_I64_1 : (q_I 1).toInt64 = Int64.ofNat 1 := by decide +kernel
def RdE (D L : Nat) (xs : Nat → Int32) (x4 b : Int) (c : Bool × Nat × Nat) (pc : Nat) (x5 x6 : Value) (s : Nat → Int → Int32) (O : Nat → Int64) : Prop := ∃ (y5 y6 : Value) (t : Nat → Int → Int32) (O' : Nat → Int64) (c' : Bool × Nat × Nat), EV D 0 pc [.ref 0, .ref 1, .ref 285, .ref 312, .int (q_I x4), x5, x6] [] (q_h L xs s O c) = EV D 0 2541 [.ref 0, .ref 1, .ref 285, .ref 312, .int (q_I x4), y5, y6] [] (q_h L xs t O' c') ∧ Cn c c' ∧ Big (b + 60) t
section RD0
variable {d L : Nat} {xs : Nat → Int32} {s : Nat → Int → Int32} {O : Nat → Int64} {c : Bool × Nat × Nat}
theorem mm_thr {k : Int} (h : q_g s 285 0 = k) : EV (d) 213 0 [.ref 285] [] (q_h L xs s O c) = some (.inl (some (.int (q_I (k)))), q_h L xs (s) O c) := by
  simp (disch := first | omega | exact q_b_01 _) only [↓reduceIte, q_bk0, q_bk1, q_bk2, q_sg_b, q_b_0, q_b_n0, q_b_1, q_b_n1, q_b_T, q_b_F, q_sg_g, q_sg_sg, q_sg_xs, q_sg_id, q_gu_ne, q_gu_eq, q_g_fne, q_g_cpe, q_w_f, q_v_f, q_u_f, q_fn_f, q_cp_f, q_sg_pg, q_sg_hc, q_lt_t, q_lt_f, q_le_t, q_le_f, q_eq_t, q_eq_f, ne_eq, eq_self, Bool.false_eq_true, Bool.true_eq_false, not_true_eq_false, not_false_eq_true, true_and, and_true, false_and, and_false, true_or, or_true, false_or, or_false, if_true, if_false, Int.reduceAdd, Int.reduceMul, Int.reduceSub, Int.reduceNeg, h, R_213_0]
end RD0
