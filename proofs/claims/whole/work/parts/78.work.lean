/-! THE CLASS: things of a text; a text of work -/
/-- n, keys, values, risk, tick -/
def okD (T : Int → Int) (E b lo hi : Int) : Prop := thg T E b = 2 ∧ lo ≤ tel T E b ∧ tel T E b ≤ hi
def wpu (w : Int × (Int → Int) × (Int → Int) × Int × Int) (k v : Int) : Int × (Int → Int) × (Int → Int) × Int × Int := (w.1 + 1, (fun z => if z = w.1 then k else w.2.1 z), (fun z => if z = w.1 then v else w.2.2.1 z), w.2.2.2.1, w.2.2.2.2)
def wCh (T : Int → Int) (E : Int) (va : Bool) : Nat → Nat → Int × (Int → Int) × (Int → Int) × Int × Int → Sum Int (Nat × (Int × (Int → Int) × (Int → Int) × Int × Int))
  | 0, i, _ => .inl (bs T E i)
  | f + 1, i, w =>
    if w.1 < 12 ∧ thg T E (bs T E i) = 2 ∧ 0 ≤ tel T E (bs T E i) ∧ tel T E (bs T E i) ≤ 99 then
      if va = true then
        if thg T E (bs T E (i + 1)) = 2 ∧ 0 ≤ tel T E (bs T E (i + 1)) ∧ tel T E (bs T E (i + 1)) ≤ 99 then
          if thg T E (bs T E (i + 2)) = 2 then wCh T E va f (i + 2) (wpu w (tel T E (bs T E i)) (tel T E (bs T E (i + 1)))) else .inr (i + 2, wpu w (tel T E (bs T E i)) (tel T E (bs T E (i + 1))))
        else .inl (bs T E (i + 1))
      else
        if thg T E (bs T E (i + 1)) = 2 then wCh T E va f (i + 1) (wpu w (tel T E (bs T E i)) 100) else .inr (i + 1, wpu w (tel T E (bs T E i)) 100)
    else .inl (bs T E i)
def wLine (T : Int → Int) (E : Int) (i : Nat) (w : Int × (Int → Int) × (Int → Int) × Int × Int) : Sum Int (Nat × (Int × (Int → Int) × (Int → Int) × Int × Int)) :=
  if thg T E (bs T E i) = 1 ∧ tel T E (bs T E i) = 0 then wCh T E true 13 (i + 1) w
  else if thg T E (bs T E i) = 1 ∧ tel T E (bs T E i) = 1 then wCh T E false 13 (i + 1) w
  else if thg T E (bs T E i) = 1 ∧ tel T E (bs T E i) = 2 then (if thg T E (bs T E (i + 1)) = 2 ∧ 0 ≤ tel T E (bs T E (i + 1)) ∧ tel T E (bs T E (i + 1)) ≤ 100 then .inr (i + 2, (w.1, w.2.1, w.2.2.1, tel T E (bs T E (i + 1)), w.2.2.2.2)) else .inl (bs T E (i + 1)))
  else if thg T E (bs T E i) = 1 ∧ tel T E (bs T E i) = 18 then (if thg T E (bs T E (i + 1)) = 2 ∧ 0 ≤ tel T E (bs T E (i + 1)) ∧ tel T E (bs T E (i + 1)) ≤ 999 then .inr (i + 2, (w.1, w.2.1, w.2.2.1, w.2.2.2.1, tel T E (bs T E (i + 1)))) else .inl (bs T E (i + 1)))
  else .inl (bs T E i)
def wLines (T : Int → Int) (E : Int) : Nat → Nat → Int × (Int → Int) × (Int → Int) × Int × Int → Sum Int (Int × (Int → Int) × (Int → Int) × Int × Int)
  | 0, i, _ => .inl (bs T E i)
  | f + 1, i, w => match wLine T E i w with
    | .inl e => .inl e
    | .inr (i', w') => if thg T E (bs T E i') = 0 then .inr w' else if thg T E (bs T E i') = 3 ∧ tel T E (bs T E i') = 59 then wLines T E f (i' + 1) w' else .inl (bs T E i')
section TKI
variable {d L : Nat} {xs : Nat → Int32} {s : Nat → Int → Int32} {O : Nat → Int64} {c : Bool × Nat × Nat} {T : Int → Int} {E : Int} {C i : Nat}
theorem ts_tel (h : TS T E C s) (hi : i ≤ C) : -2147483648 ≤ tel T E (bs T E i) ∧ tel T E (bs T E i) < 2147483648 := by
  rw [← (h.2.2.2 i hi).2.2]
  exact q_g_rg s 6 i
theorem cc_is {th to : Int} (h : TS T E C s) (hm : q_g s 2 5 = i) (hi : i ≤ C) (h0 : 0 ≤ th) (h1 : th ≤ 3) (h2 : -1 ≤ to) (h3 : to ≤ 999) : EV (d) 118 0 [.ref 2, .int (q_I (th)), .int (q_I (to))] [] (q_h L xs s O c) = some (.inl (some (.int (q_I (q_b (thg T E (bs T E i) = th ∧ tel T E (bs T E i) = to))))), q_h L xs (s) O c) := by
  obtain ⟨a1, a2, a3⟩ := h.2.2.2 i hi
  have tr := thg_rg T E (bs T E i)
  have lr := ts_tel h hi
  have hC := h.1
  by_cases c1 : thg T E (bs T E i) = th
  · by_cases c2 : tel T E (bs T E i) = to
    · simp (disch := first | omega | exact q_b_01 _) only [↓reduceIte, q_bk0, q_bk1, q_bk2, q_sg_b, q_b_0, q_b_n0, q_b_1, q_b_n1, q_b_T, q_b_F, q_sg_g, q_sg_sg, q_sg_xs, q_sg_id, q_gu_ne, q_gu_eq, q_g_fne, q_g_cpe, q_w_f, q_v_f, q_u_f, q_fn_f, q_cp_f, q_sg_pg, q_sg_hc, q_lt_t, q_lt_f, q_le_t, q_le_f, q_eq_t, q_eq_f, ne_eq, eq_self, Bool.false_eq_true, Bool.true_eq_false, not_true_eq_false, not_false_eq_true, true_and, and_true, false_and, and_false, true_or, or_true, false_or, or_false, if_true, if_false, Int.reduceAdd, Int.reduceMul, Int.reduceSub, Int.reduceNeg, hm, a1, a3, c1, c2, R_118_0, R_118_9, R_118_13, R_118_22, R_118_26, R_118_30, R_118_31]
    · simp (disch := first | omega | exact q_b_01 _) only [↓reduceIte, q_bk0, q_bk1, q_bk2, q_sg_b, q_b_0, q_b_n0, q_b_1, q_b_n1, q_b_T, q_b_F, q_sg_g, q_sg_sg, q_sg_xs, q_sg_id, q_gu_ne, q_gu_eq, q_g_fne, q_g_cpe, q_w_f, q_v_f, q_u_f, q_fn_f, q_cp_f, q_sg_pg, q_sg_hc, q_lt_t, q_lt_f, q_le_t, q_le_f, q_eq_t, q_eq_f, ne_eq, eq_self, Bool.false_eq_true, Bool.true_eq_false, not_true_eq_false, not_false_eq_true, true_and, and_true, false_and, and_false, true_or, or_true, false_or, or_false, if_true, if_false, Int.reduceAdd, Int.reduceMul, Int.reduceSub, Int.reduceNeg, hm, a1, a3, c1, c2, R_118_0, R_118_9, R_118_13, R_118_22, R_118_26, R_118_30, R_118_31]
  · simp (disch := first | omega | exact q_b_01 _) only [↓reduceIte, q_bk0, q_bk1, q_bk2, q_sg_b, q_b_0, q_b_n0, q_b_1, q_b_n1, q_b_T, q_b_F, q_sg_g, q_sg_sg, q_sg_xs, q_sg_id, q_gu_ne, q_gu_eq, q_g_fne, q_g_cpe, q_w_f, q_v_f, q_u_f, q_fn_f, q_cp_f, q_sg_pg, q_sg_hc, q_lt_t, q_lt_f, q_le_t, q_le_f, q_eq_t, q_eq_f, ne_eq, eq_self, Bool.false_eq_true, Bool.true_eq_false, not_true_eq_false, not_false_eq_true, true_and, and_true, false_and, and_false, true_or, or_true, false_or, or_false, if_true, if_false, Int.reduceAdd, Int.reduceMul, Int.reduceSub, Int.reduceNeg, hm, a1, c1, R_118_0, R_118_9, R_118_13, R_118_22, R_118_26, R_118_30, R_118_31]
theorem cc_isWithin {th lo hi' : Int} (h : TS T E C s) (hm : q_g s 2 5 = i) (hi : i ≤ C) (h0 : 0 ≤ th) (h1 : th ≤ 3) (h2 : -1 ≤ lo) (h3 : lo ≤ 999) (h4 : -1 ≤ hi') (h5 : hi' ≤ 999) : EV (d) 119 0 [.ref 2, .int (q_I (th)), .int (q_I (lo)), .int (q_I (hi'))] [] (q_h L xs s O c) = some (.inl (some (.int (q_I (q_b (thg T E (bs T E i) = th ∧ lo ≤ tel T E (bs T E i) ∧ tel T E (bs T E i) ≤ hi'))))), q_h L xs (s) O c) := by
  obtain ⟨a1, a2, a3⟩ := h.2.2.2 i hi
  have tr := thg_rg T E (bs T E i)
  have lr := ts_tel h hi
  have hC := h.1
  by_cases c1 : thg T E (bs T E i) = th
  · by_cases c2 : lo ≤ tel T E (bs T E i)
    · by_cases c3 : tel T E (bs T E i) ≤ hi'
      · simp (disch := first | omega | exact q_b_01 _) only [↓reduceIte, q_bk0, q_bk1, q_bk2, q_sg_b, q_b_0, q_b_n0, q_b_1, q_b_n1, q_b_T, q_b_F, q_sg_g, q_sg_sg, q_sg_xs, q_sg_id, q_gu_ne, q_gu_eq, q_g_fne, q_g_cpe, q_w_f, q_v_f, q_u_f, q_fn_f, q_cp_f, q_sg_pg, q_sg_hc, q_lt_t, q_lt_f, q_le_t, q_le_f, q_eq_t, q_eq_f, ne_eq, eq_self, Bool.false_eq_true, Bool.true_eq_false, not_true_eq_false, not_false_eq_true, true_and, and_true, false_and, and_false, true_or, or_true, false_or, or_false, if_true, if_false, Int.reduceAdd, Int.reduceMul, Int.reduceSub, Int.reduceNeg, hm, a1, a3, c1, c2, c3, R_119_0, R_119_9, R_119_13, R_119_22, R_119_26, R_119_35, R_119_39, R_119_43, R_119_44]
      · simp (disch := first | omega | exact q_b_01 _) only [↓reduceIte, q_bk0, q_bk1, q_bk2, q_sg_b, q_b_0, q_b_n0, q_b_1, q_b_n1, q_b_T, q_b_F, q_sg_g, q_sg_sg, q_sg_xs, q_sg_id, q_gu_ne, q_gu_eq, q_g_fne, q_g_cpe, q_w_f, q_v_f, q_u_f, q_fn_f, q_cp_f, q_sg_pg, q_sg_hc, q_lt_t, q_lt_f, q_le_t, q_le_f, q_eq_t, q_eq_f, ne_eq, eq_self, Bool.false_eq_true, Bool.true_eq_false, not_true_eq_false, not_false_eq_true, true_and, and_true, false_and, and_false, true_or, or_true, false_or, or_false, if_true, if_false, Int.reduceAdd, Int.reduceMul, Int.reduceSub, Int.reduceNeg, hm, a1, a3, c1, c2, c3, R_119_0, R_119_9, R_119_13, R_119_22, R_119_26, R_119_35, R_119_39, R_119_43, R_119_44]
    · simp (disch := first | omega | exact q_b_01 _) only [↓reduceIte, q_bk0, q_bk1, q_bk2, q_sg_b, q_b_0, q_b_n0, q_b_1, q_b_n1, q_b_T, q_b_F, q_sg_g, q_sg_sg, q_sg_xs, q_sg_id, q_gu_ne, q_gu_eq, q_g_fne, q_g_cpe, q_w_f, q_v_f, q_u_f, q_fn_f, q_cp_f, q_sg_pg, q_sg_hc, q_lt_t, q_lt_f, q_le_t, q_le_f, q_eq_t, q_eq_f, ne_eq, eq_self, Bool.false_eq_true, Bool.true_eq_false, not_true_eq_false, not_false_eq_true, true_and, and_true, false_and, and_false, true_or, or_true, false_or, or_false, if_true, if_false, Int.reduceAdd, Int.reduceMul, Int.reduceSub, Int.reduceNeg, hm, a1, a3, c1, c2, R_119_0, R_119_9, R_119_13, R_119_22, R_119_26, R_119_35, R_119_39, R_119_43, R_119_44]
  · simp (disch := first | omega | exact q_b_01 _) only [↓reduceIte, q_bk0, q_bk1, q_bk2, q_sg_b, q_b_0, q_b_n0, q_b_1, q_b_n1, q_b_T, q_b_F, q_sg_g, q_sg_sg, q_sg_xs, q_sg_id, q_gu_ne, q_gu_eq, q_g_fne, q_g_cpe, q_w_f, q_v_f, q_u_f, q_fn_f, q_cp_f, q_sg_pg, q_sg_hc, q_lt_t, q_lt_f, q_le_t, q_le_f, q_eq_t, q_eq_f, ne_eq, eq_self, Bool.false_eq_true, Bool.true_eq_false, not_true_eq_false, not_false_eq_true, true_and, and_true, false_and, and_false, true_or, or_true, false_or, or_false, if_true, if_false, Int.reduceAdd, Int.reduceMul, Int.reduceSub, Int.reduceNeg, hm, a1, c1, R_119_0, R_119_9, R_119_13, R_119_22, R_119_26, R_119_35, R_119_39, R_119_43, R_119_44]
theorem cc_told (h : TS T E C s) (hm : q_g s 2 5 = i) (hi : i ≤ C) : EV (d) 120 0 [.ref 2] [] (q_h L xs s O c) = some (.inl (some (.int (q_I (tel T E (bs T E i))))), q_h L xs (s) O c) := by
  obtain ⟨a1, a2, a3⟩ := h.2.2.2 i hi
  have hC := h.1
  simp (disch := first | omega | exact q_b_01 _) only [↓reduceIte, q_bk0, q_bk1, q_bk2, q_sg_b, q_b_0, q_b_n0, q_b_1, q_b_n1, q_b_T, q_b_F, q_sg_g, q_sg_sg, q_sg_xs, q_sg_id, q_gu_ne, q_gu_eq, q_g_fne, q_g_cpe, q_w_f, q_v_f, q_u_f, q_fn_f, q_cp_f, q_sg_pg, q_sg_hc, q_lt_t, q_lt_f, q_le_t, q_le_f, q_eq_t, q_eq_f, ne_eq, eq_self, Bool.false_eq_true, Bool.true_eq_false, not_true_eq_false, not_false_eq_true, true_and, and_true, false_and, and_false, true_or, or_true, false_or, or_false, if_true, if_false, Int.reduceAdd, Int.reduceMul, Int.reduceSub, Int.reduceNeg, hm, a3, R_120_0, R_120_9]
theorem thg_end (h : TS T E C s) (hi : i ≤ C) : thg T E (bs T E i) = 0 ↔ i = C := by
  constructor
  · intro e
    by_cases c : i < C
    · have := h.2.2.1 i c
      unfold thg at e
      rw [if_neg (by omega)] at e
      split at e
      · omega
      · split at e <;> omega
    · omega
  · intro e
    subst e
    unfold thg
    rw [if_pos (by rw [h.2.1]; omega)]
theorem cc_step (h : TS T E C s) (hm : q_g s 2 5 = i) (hi : i < C) : EV (d) 121 0 [.ref 2] [] (q_h L xs s O c) = some (.inl none, q_h L xs (q_u s 2 5 ((i + 1 : Nat) : Int)) O c) := by
  obtain ⟨a1, a2, a3⟩ := h.2.2.2 i (by omega)
  have hC := h.1
  have tr := thg_rg T E (bs T E i)
  have ne : thg T E (bs T E i) ≠ 0 := fun e => absurd ((thg_end h (by omega)).mp e) (by omega)
  simp (disch := first | omega | exact q_b_01 _) only [↓reduceIte, q_bk0, q_bk1, q_bk2, q_sg_b, q_b_0, q_b_n0, q_b_1, q_b_n1, q_b_T, q_b_F, q_sg_g, q_sg_sg, q_sg_xs, q_sg_id, q_gu_ne, q_gu_eq, q_g_fne, q_g_cpe, q_w_f, q_v_f, q_u_f, q_fn_f, q_cp_f, q_sg_pg, q_sg_hc, q_lt_t, q_lt_f, q_le_t, q_le_f, q_eq_t, q_eq_f, ne_eq, eq_self, Bool.false_eq_true, Bool.true_eq_false, not_true_eq_false, not_false_eq_true, true_and, and_true, false_and, and_false, true_or, or_true, false_or, or_false, if_true, if_false, Int.reduceAdd, Int.reduceMul, Int.reduceSub, Int.reduceNeg, hm, a1, R_121_0, R_121_9, R_121_12, R_121_22, R_121_32]
  rfl
theorem cc_refuse (h : TS T E C s) (hm : q_g s 2 5 = i) (hi : i ≤ C) : EV (d) 122 0 [.ref 2] [] (q_h L xs s O c) = some (.inl (some (.int (q_I (0)))), q_h L xs (q_u s 2 6 (bs T E i)) O c) := by
  obtain ⟨a1, a2, a3⟩ := h.2.2.2 i hi
  have hC := h.1
  simp (disch := first | omega | exact q_b_01 _) only [↓reduceIte, q_bk0, q_bk1, q_bk2, q_sg_b, q_b_0, q_b_n0, q_b_1, q_b_n1, q_b_T, q_b_F, q_sg_g, q_sg_sg, q_sg_xs, q_sg_id, q_gu_ne, q_gu_eq, q_g_fne, q_g_cpe, q_w_f, q_v_f, q_u_f, q_fn_f, q_cp_f, q_sg_pg, q_sg_hc, q_lt_t, q_lt_f, q_le_t, q_le_f, q_eq_t, q_eq_f, ne_eq, eq_self, Bool.false_eq_true, Bool.true_eq_false, not_true_eq_false, not_false_eq_true, true_and, and_true, false_and, and_false, true_or, or_true, false_or, or_false, if_true, if_false, Int.reduceAdd, Int.reduceMul, Int.reduceSub, Int.reduceNeg, hm, a2, R_122_0, R_122_10, R_122_13]
theorem TS_u {k : Nat} {z v : Int} (h : TS T E C s) (hk : k ≠ 4 ∧ k ≠ 5 ∧ k ≠ 6) : TS T E C (q_u s k z v) := by
  refine ⟨h.1, h.2.1, h.2.2.1, fun i hi => ?_⟩
  rw [q_gu_ne (by omega), q_gu_ne (by omega), q_gu_ne (by omega)]
  exact h.2.2.2 i hi
end TKI
