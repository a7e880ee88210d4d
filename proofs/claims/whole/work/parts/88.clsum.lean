/-! THE CLASS: sums and comparisons of a law -/
section CLS
variable {d L : Nat} {xs : Nat → Int32} {O : Nat → Int64} {c : Bool × Nat × Nat} {T : Int → Int} {E : Int} {C : Nat}
theorem FL_g {s t : Nat → Int → Int32} {k : Nat} {z : Int} (h : FL s t) (h1 : k ≠ 55) (h2 : k ≠ 59) (h3 : ¬ (k = 2 ∧ (z = 5 ∨ z = 6))) : q_g t k z = q_g s k z := by
  show (t k z).toInt = _
  rw [h k z h1 h2 h3]
  rfl
theorem cc_part (hr : ∀ j, 0 ≤ j → j < E → 0 ≤ T j ∧ T j ≤ 255) {i : Nat} {j : Int} {l : List Int} {s : Nat → Int → Int32} {y : Value} (j0 : 0 ≤ j) (j1 : j < 400) (h : CL T E C i l s) (hl : l.length ≤ i) : (∀ e, pPart T E i = .inl e → ∃ t, EV (d + 1) 84 2 [.ref 67, .int (q_I (j)), y] [] (q_h L xs s O c) = some (.inl (some (.int (q_I (0)))), q_h L xs (t) O c) ∧ q_g t 2 6 = e ∧ FL s t) ∧ ∀ p, pPart T E i = .inr p → ∃ t x v, p = (i + 1, [x]) ∧ i < C ∧ 0 ≤ x ∧ x < 2000 ∧ EV (d + 1) 84 2 [.ref 67, .int (q_I (j)), y] [] (q_h L xs s O c) = EV (d + 1) 84 84 [.ref 67, .int (q_I (j)), .int (q_I (v))] [] (q_h L xs (t) O c) ∧ CL T E C i (l ++ [x]) t ∧ q_g t 2 6 = q_g s 2 6 ∧ q_g t 55 0 = q_g s 55 0 ∧ FL s t := by
  obtain ⟨hT, hm, hi, h4, h5⟩ := h
  have hC := hT.1
  have w1 := cc_isWithin (d := d) (L := L) (xs := xs) (O := O) (c := c) (th := 1) (lo := 12) (hi' := 18) hT hm hi (by omega) (by omega) (by omega) (by omega) (by omega) (by omega)
  have w2 := cc_isWithin (d := d) (L := L) (xs := xs) (O := O) (c := c) (th := 2) (lo := 0) (hi' := 999) hT hm hi (by omega) (by omega) (by omega) (by omega) (by omega) (by omega)
  have ct := cc_told (d := d) (L := L) (xs := xs) (O := O) (c := c) hT hm hi
  have H : CL T E C i l s := ⟨hT, hm, hi, h4, h5⟩
  unfold pPart
  by_cases c1 : thg T E (bs T E i) = 1 ∧ 12 ≤ tel T E (bs T E i) ∧ tel T E (bs T E i) ≤ 18
  · rw [if_pos c1]
    have iC := CL_lt H (by omega)
    refine ⟨fun e he => by simp at he, fun p hp => ?_⟩
    obtain ⟨t, a1, a2, a3, a4, a5⟩ := cc_addCode (d := d) (L := L) (xs := xs) (O := O) (c := c) (x := 1000 + tel T E (bs T E i) - 12) H (by omega) (by omega) (by omega)
    refine ⟨t, _, 1, (Sum.inr.inj hp).symm, iC, by omega, by omega, ?_, a2, a3, a4, a5⟩
    rw [R_84_2]
    simp (disch := first | omega | exact q_b_01 _) only [↓reduceIte, q_bk0, q_bk1, q_bk2, q_sg_b, q_b_0, q_b_n0, q_b_1, q_b_n1, q_b_T, q_b_F, q_sg_g, q_sg_sg, q_sg_xs, q_sg_id, q_gu_ne, q_gu_eq, q_g_fne, q_g_cpe, q_w_f, q_v_f, q_u_f, q_fn_f, q_cp_f, q_sg_pg, q_sg_hc, q_lt_t, q_lt_f, q_le_t, q_le_f, q_eq_t, q_eq_f, ne_eq, eq_self, Bool.false_eq_true, Bool.true_eq_false, not_true_eq_false, not_false_eq_true, true_and, and_true, false_and, and_false, true_or, or_true, false_or, or_false, if_true, if_false, Int.reduceAdd, Int.reduceMul, Int.reduceSub, Int.reduceNeg, w1, q_bt c1, ct, a1, R_84_0, R_84_9, R_84_21, R_84_26, R_84_38, R_84_41, R_84_48, R_84_49, R_84_57, R_84_67, R_84_74, R_84_88, R_84_98, R_84_105, R_84_115, R_84_118, R_84_120, R_84_127, R_84_133, R_84_140, C_84_18, C_84_35, C_84_45, C_84_64, C_84_78, C_84_81, C_84_95, C_84_102, C_84_112, C_84_124, C_84_137]
  · rw [if_neg c1]
    by_cases c2 : thg T E (bs T E i) = 2 ∧ 0 ≤ tel T E (bs T E i) ∧ tel T E (bs T E i) ≤ 999
    · rw [if_pos c2]
      have iC := CL_lt H (by omega)
      refine ⟨fun e he => by simp at he, fun p hp => ?_⟩
      obtain ⟨t, a1, a2, a3, a4, a5⟩ := cc_addCode (d := d) (L := L) (xs := xs) (O := O) (c := c) (x := tel T E (bs T E i)) H (by omega) (by omega) (by omega)
      refine ⟨t, _, 0, (Sum.inr.inj hp).symm, iC, by omega, by omega, ?_, a2, a3, a4, a5⟩
      rw [R_84_2]
      simp (disch := first | omega | exact q_b_01 _) only [↓reduceIte, q_bk0, q_bk1, q_bk2, q_sg_b, q_b_0, q_b_n0, q_b_1, q_b_n1, q_b_T, q_b_F, q_sg_g, q_sg_sg, q_sg_xs, q_sg_id, q_gu_ne, q_gu_eq, q_g_fne, q_g_cpe, q_w_f, q_v_f, q_u_f, q_fn_f, q_cp_f, q_sg_pg, q_sg_hc, q_lt_t, q_lt_f, q_le_t, q_le_f, q_eq_t, q_eq_f, ne_eq, eq_self, Bool.false_eq_true, Bool.true_eq_false, not_true_eq_false, not_false_eq_true, true_and, and_true, false_and, and_false, true_or, or_true, false_or, or_false, if_true, if_false, Int.reduceAdd, Int.reduceMul, Int.reduceSub, Int.reduceNeg, w1, w2, q_bf c1, q_bt c2, ct, a1, R_84_0, R_84_9, R_84_21, R_84_26, R_84_38, R_84_41, R_84_48, R_84_49, R_84_57, R_84_67, R_84_74, R_84_88, R_84_98, R_84_105, R_84_115, R_84_118, R_84_120, R_84_127, R_84_133, R_84_140, C_84_18, C_84_35, C_84_45, C_84_64, C_84_78, C_84_81, C_84_95, C_84_102, C_84_112, C_84_124, C_84_137]
    · rw [if_neg c2]
      refine ⟨fun e he => ?_, fun p hp => by simp at hp⟩
      have he' : bs T E i = e := Sum.inl.inj he
      obtain ⟨t, a1, a2, a3⟩ := cc_ref (d := d) (L := L) (xs := xs) (O := O) (c := c) H
      refine ⟨t, ?_, by rw [a2, he'], a3⟩
      rw [R_84_2]
      simp (disch := first | omega | exact q_b_01 _) only [↓reduceIte, q_bk0, q_bk1, q_bk2, q_sg_b, q_b_0, q_b_n0, q_b_1, q_b_n1, q_b_T, q_b_F, q_sg_g, q_sg_sg, q_sg_xs, q_sg_id, q_gu_ne, q_gu_eq, q_g_fne, q_g_cpe, q_w_f, q_v_f, q_u_f, q_fn_f, q_cp_f, q_sg_pg, q_sg_hc, q_lt_t, q_lt_f, q_le_t, q_le_f, q_eq_t, q_eq_f, ne_eq, eq_self, Bool.false_eq_true, Bool.true_eq_false, not_true_eq_false, not_false_eq_true, true_and, and_true, false_and, and_false, true_or, or_true, false_or, or_false, if_true, if_false, Int.reduceAdd, Int.reduceMul, Int.reduceSub, Int.reduceNeg, w1, w2, q_bf c1, q_bf c2, a1, R_84_0, R_84_9, R_84_21, R_84_26, R_84_38, R_84_41, R_84_48, R_84_49, R_84_57, R_84_67, R_84_74, R_84_88, R_84_98, R_84_105, R_84_115, R_84_118, R_84_120, R_84_127, R_84_133, R_84_140, C_84_18, C_84_35, C_84_45, C_84_64, C_84_78, C_84_81, C_84_95, C_84_102, C_84_112, C_84_124, C_84_137]
/-- behind a part and its code -/
theorem cc_plus (hr : ∀ j, 0 ≤ j → j < E → 0 ≤ T j ∧ T j ≤ 255) {i : Nat} {j v : Int} {l : List Int} {s : Nat → Int → Int32} (h : CL T E C i l s) (iC : i < C) (hl : l.length ≤ i + 1) : (tk T E (i + 1) 3 43 → ∃ t, EV (d + 1) 84 98 [.ref 67, .int (q_I (j)), .int (q_I (v))] [] (q_h L xs s O c) = EV (d + 1) 84 2 [.ref 67, .int (q_I (j + 1)), .int (q_I (v))] [] (q_h L xs (t) O c) ∧ CL T E C (i + 2) l t ∧ q_g t 2 6 = q_g s 2 6 ∧ q_g t 55 0 = q_g s 55 0 ∧ FL s t) ∧ (¬ tk T E (i + 1) 3 43 → ∃ t, EV (d + 1) 84 98 [.ref 67, .int (q_I (j)), .int (q_I (v))] [] (q_h L xs s O c) = some (.inl (some (.int (q_I (1)))), q_h L xs (t) O c) ∧ CL T E C (i + 1) l t ∧ q_g t 2 6 = q_g s 2 6 ∧ q_g t 55 0 = q_g s 55 0 ∧ FL s t) := by
  have h' := CL_step h iC
  have cs := cc_step (d := d) (L := L) (xs := xs) (O := O) (c := c) h.1 h.2.1 iC
  have is := cc_is (d := d) (L := L) (xs := xs) (O := O) (c := c) (th := 3) (to := 43) h'.1 h'.2.1 h'.2.2.1 (by omega) (by omega) (by omega) (by omega)
  refine ⟨fun x => ?_, fun x => ?_⟩
  · have iC2 := CL_lt h' (by have := x.1; omega)
    have cs2 := cc_step (d := d) (L := L) (xs := xs) (O := O) (c := c) h'.1 h'.2.1 iC2
    refine ⟨_, ?_, CL_step h' iC2, by rw [q_gu_ne (by omega), q_gu_ne (by omega)], by rw [q_gu_ne (by omega), q_gu_ne (by omega)], FL_u (FL_u FL_refl (by omega)) (by omega)⟩
    simp (disch := first | omega | exact q_b_01 _) only [↓reduceIte, q_bk0, q_bk1, q_bk2, q_sg_b, q_b_0, q_b_n0, q_b_1, q_b_n1, q_b_T, q_b_F, q_sg_g, q_sg_sg, q_sg_xs, q_sg_id, q_gu_ne, q_gu_eq, q_g_fne, q_g_cpe, q_w_f, q_v_f, q_u_f, q_fn_f, q_cp_f, q_sg_pg, q_sg_hc, q_lt_t, q_lt_f, q_le_t, q_le_f, q_eq_t, q_eq_f, ne_eq, eq_self, Bool.false_eq_true, Bool.true_eq_false, not_true_eq_false, not_false_eq_true, true_and, and_true, false_and, and_false, true_or, or_true, false_or, or_false, if_true, if_false, Int.reduceAdd, Int.reduceMul, Int.reduceSub, Int.reduceNeg, cs, is, q_bt x, cs2, R_84_0, R_84_9, R_84_21, R_84_26, R_84_38, R_84_41, R_84_48, R_84_49, R_84_57, R_84_67, R_84_74, R_84_84, R_84_88, R_84_98, R_84_105, R_84_115, R_84_118, R_84_120, R_84_127, R_84_133, R_84_140, C_84_18, C_84_35, C_84_45, C_84_64, C_84_78, C_84_81, C_84_95, C_84_102, C_84_112, C_84_124, C_84_137]
  · refine ⟨_, ?_, h', by rw [q_gu_ne (by omega)], by rw [q_gu_ne (by omega)], FL_u FL_refl (by omega)⟩
    simp (disch := first | omega | exact q_b_01 _) only [↓reduceIte, q_bk0, q_bk1, q_bk2, q_sg_b, q_b_0, q_b_n0, q_b_1, q_b_n1, q_b_T, q_b_F, q_sg_g, q_sg_sg, q_sg_xs, q_sg_id, q_gu_ne, q_gu_eq, q_g_fne, q_g_cpe, q_w_f, q_v_f, q_u_f, q_fn_f, q_cp_f, q_sg_pg, q_sg_hc, q_lt_t, q_lt_f, q_le_t, q_le_f, q_eq_t, q_eq_f, ne_eq, eq_self, Bool.false_eq_true, Bool.true_eq_false, not_true_eq_false, not_false_eq_true, true_and, and_true, false_and, and_false, true_or, or_true, false_or, or_false, if_true, if_false, Int.reduceAdd, Int.reduceMul, Int.reduceSub, Int.reduceNeg, cs, is, q_bf x, R_84_0, R_84_9, R_84_21, R_84_26, R_84_38, R_84_41, R_84_48, R_84_49, R_84_57, R_84_67, R_84_74, R_84_84, R_84_88, R_84_98, R_84_105, R_84_115, R_84_118, R_84_120, R_84_127, R_84_133, R_84_140, C_84_18, C_84_35, C_84_45, C_84_64, C_84_78, C_84_81, C_84_95, C_84_102, C_84_112, C_84_124, C_84_137]
theorem cc_sumL (hr : ∀ j, 0 ≤ j → j < E → 0 ≤ T j ∧ T j ≤ 255) : ∀ (f : Nat) (j : Int) (i0 i : Nat) (l0 l : List Int) (s : Nat → Int → Int32) (y : Value), C < i + f → 1 ≤ j → j < i → CL T E C i (l0 ++ l) s → l0.length ≤ i0 → l.length + 1 + i0 ≤ i → CSp T E C i0 s l0 (pb (pPart T E i) (fun i' q => pSumL T E f i' (l ++ q ++ [4000]))) (fun v t => EV (d + 1) 84 2 [.ref 67, .int (q_I (j)), y] [] (q_h L xs s O c) = some (.inl (some (.int (q_I (v)))), q_h L xs (t) O c))
  | 0, j, i0, i, l0, l, s, y, hf, j0, j1, h, hl0, hl => by
    have := h.2.2.1
    omega
  | f + 1, j, i0, i, l0, l, s, y, hf, j0, j1, h, hl0, hl => by
    have hll : (l0 ++ l).length = l0.length + l.length := List.length_append
    have hC := h.1.1
    have hi := h.2.2.1
    obtain ⟨k1, k2⟩ := cc_part (d := d) (L := L) (xs := xs) (O := O) (c := c) (y := y) hr (show 0 ≤ j by omega) (show j < 400 by omega) h (by omega)
    cases hp : pPart T E i with
    | inl e =>
      obtain ⟨t, a1, a2, a3⟩ := k1 e hp
      exact ⟨t, a1, a2, a3⟩
    | inr p =>
      obtain ⟨t, x, v, b1, b2, b3, b4, b5, b6, b7, b8, b9⟩ := k2 p hp
      subst b1
      have e0 : ((l0 ++ l) ++ [x]).length = (l0 ++ l).length + 1 := by simp only [List.length_append, List.length_cons, List.length_nil] <;> omega
      obtain ⟨t2, d1, d2, d3, d4, d5⟩ := cc_addCode (d := d) (L := L) (xs := xs) (O := O) (c := c) (x := 4000) b6 (by omega) (by omega) (by omega)
      have e1 : ((l0 ++ l) ++ [x]) ++ [4000] = l0 ++ (l ++ [x] ++ [4000]) := by simp
      rw [e1] at d2
      have e3 : (l ++ [x] ++ [4000]).length = l.length + 2 := by simp only [List.length_append, List.length_cons, List.length_nil] <;> omega
      have e2 : (l0 ++ (l ++ [x] ++ [4000])).length = (l0 ++ l).length + 2 := by simp only [List.length_append, List.length_cons, List.length_nil] <;> omega
      obtain ⟨m1, m2⟩ := cc_plus (d := d) (L := L) (xs := xs) (O := O) (c := c) (j := j) (v := v) hr d2 b2 (by omega)
      have st : EV (d + 1) 84 2 [.ref 67, .int (q_I (j)), y] [] (q_h L xs s O c) = EV (d + 1) 84 98 [.ref 67, .int (q_I (j)), .int (q_I (v))] [] (q_h L xs (t2) O c) := by
        rw [b5]
        simp (disch := first | omega | exact q_b_01 _) only [↓reduceIte, q_bk0, q_bk1, q_bk2, q_sg_b, q_b_0, q_b_n0, q_b_1, q_b_n1, q_b_T, q_b_F, q_sg_g, q_sg_sg, q_sg_xs, q_sg_id, q_gu_ne, q_gu_eq, q_g_fne, q_g_cpe, q_w_f, q_v_f, q_u_f, q_fn_f, q_cp_f, q_sg_pg, q_sg_hc, q_lt_t, q_lt_f, q_le_t, q_le_f, q_eq_t, q_eq_f, ne_eq, eq_self, Bool.false_eq_true, Bool.true_eq_false, not_true_eq_false, not_false_eq_true, true_and, and_true, false_and, and_false, true_or, or_true, false_or, or_false, if_true, if_false, Int.reduceAdd, Int.reduceMul, Int.reduceSub, Int.reduceNeg, d1, R_84_0, R_84_9, R_84_21, R_84_26, R_84_38, R_84_41, R_84_48, R_84_49, R_84_57, R_84_67, R_84_74, R_84_84, R_84_88, R_84_105, R_84_115, R_84_118, R_84_120, R_84_127, R_84_133, R_84_140, C_84_18, C_84_35, C_84_45, C_84_64, C_84_78, C_84_81, C_84_95, C_84_102, C_84_112, C_84_124, C_84_137]
      rw [st]
      show CSp T E C i0 s l0 (if tk T E (i + 1) 3 43 then pb (pPart T E (i + 1 + 1)) (fun i' q => pSumL T E f i' (l ++ [x] ++ [4000] ++ q ++ [4000])) else Sum.inr (i + 1, l ++ [x] ++ [4000])) _
      by_cases cp : tk T E (i + 1) 3 43
      · rw [if_pos cp]
        obtain ⟨t3, n1, n2, n3, n4, n5⟩ := m1 cp
        rw [n1]
        have ih := cc_sumL hr f (j + 1) i0 (i + 2) l0 (l ++ [x] ++ [4000]) t3 (.int (q_I v)) (by omega) (by omega) (by omega) n2 hl0 (by omega)
        cases hq : pb (pPart T E (i + 1 + 1)) (fun i' q => pSumL T E f i' (l ++ [x] ++ [4000] ++ q ++ [4000])) with
        | inl e =>
          rw [show i + 2 = i + 1 + 1 by omega, hq] at ih
          obtain ⟨t4, r1, r2, r3⟩ := ih
          exact ⟨t4, r1, r2, FL_trans b9 (FL_trans d5 (FL_trans n5 r3))⟩
        | inr p =>
          rw [show i + 2 = i + 1 + 1 by omega, hq] at ih
          obtain ⟨t4, r1, r2, r3, r4, r5, r6⟩ := ih
          exact ⟨t4, r1, r2, r3, by rw [r4, n3, d3, b7], by rw [r5, n4, d4, b8], FL_trans b9 (FL_trans d5 (FL_trans n5 r6))⟩
      · rw [if_neg cp]
        obtain ⟨t3, n1, n2, n3, n4, n5⟩ := m2 cp
        exact ⟨t3, n1, n2, by show (l ++ [x] ++ [4000]).length + i0 ≤ i + 1; omega, by rw [n3, d3, b7], by rw [n4, d4, b8], FL_trans b9 (FL_trans d5 n5)⟩
theorem cc_sum (hr : ∀ j, 0 ≤ j → j < E → 0 ≤ T j ∧ T j ≤ 255) {i : Nat} {l : List Int} {s : Nat → Int → Int32} (i0 : 1 ≤ i) (h : CL T E C i l s) (hl : l.length ≤ i) : CSp T E C i s l (pSum T E i) (fun v t => EV (d + 1) 84 0 [.ref 67, .null, .null] [] (q_h L xs s O c) = some (.inl (some (.int (q_I (v)))), q_h L xs (t) O c)) := by
  have hC := h.1.1
  have hi := h.2.2.1
  have st : EV (d + 1) 84 0 [.ref 67, .null, .null] [] (q_h L xs s O c) = EV (d + 1) 84 2 [.ref 67, .int (q_I (0)), .null] [] (q_h L xs s O c) := by
    simp (disch := first | omega | exact q_b_01 _) only [↓reduceIte, q_bk0, q_bk1, q_bk2, q_sg_b, q_b_0, q_b_n0, q_b_1, q_b_n1, q_b_T, q_b_F, q_sg_g, q_sg_sg, q_sg_xs, q_sg_id, q_gu_ne, q_gu_eq, q_g_fne, q_g_cpe, q_w_f, q_v_f, q_u_f, q_fn_f, q_cp_f, q_sg_pg, q_sg_hc, q_lt_t, q_lt_f, q_le_t, q_le_f, q_eq_t, q_eq_f, ne_eq, eq_self, Bool.false_eq_true, Bool.true_eq_false, not_true_eq_false, not_false_eq_true, true_and, and_true, false_and, and_false, true_or, or_true, false_or, or_false, if_true, if_false, Int.reduceAdd, Int.reduceMul, Int.reduceSub, Int.reduceNeg, R_84_0, R_84_9, R_84_21, R_84_26, R_84_38, R_84_41, R_84_48, R_84_49, R_84_57, R_84_67, R_84_74, R_84_84, R_84_88, R_84_98, R_84_105, R_84_115, R_84_118, R_84_120, R_84_127, R_84_133, R_84_140, C_84_18, C_84_35, C_84_45, C_84_64, C_84_78, C_84_81, C_84_95, C_84_102, C_84_112, C_84_124, C_84_137]
  rw [st]
  obtain ⟨k1, k2⟩ := cc_part (d := d) (L := L) (xs := xs) (O := O) (c := c) (j := 0) (y := .null) hr (by omega) (by omega) h (by omega)
  unfold pSum
  cases hp : pPart T E i with
  | inl e =>
    obtain ⟨t, a1, a2, a3⟩ := k1 e hp
    exact ⟨t, a1, a2, a3⟩
  | inr p =>
    obtain ⟨t, x, v, b1, b2, b3, b4, b5, b6, b7, b8, b9⟩ := k2 p hp
    subst b1
    have e0 : (l ++ [x]).length = l.length + 1 := by simp
    obtain ⟨m1, m2⟩ := cc_plus (d := d) (L := L) (xs := xs) (O := O) (c := c) (j := 0) (v := v) hr b6 b2 (by omega)
    have st : EV (d + 1) 84 2 [.ref 67, .int (q_I (0)), .null] [] (q_h L xs s O c) = EV (d + 1) 84 98 [.ref 67, .int (q_I (0)), .int (q_I (v))] [] (q_h L xs (t) O c) := by
      rw [b5]
      simp (disch := first | omega | exact q_b_01 _) only [↓reduceIte, q_bk0, q_bk1, q_bk2, q_sg_b, q_b_0, q_b_n0, q_b_1, q_b_n1, q_b_T, q_b_F, q_sg_g, q_sg_sg, q_sg_xs, q_sg_id, q_gu_ne, q_gu_eq, q_g_fne, q_g_cpe, q_w_f, q_v_f, q_u_f, q_fn_f, q_cp_f, q_sg_pg, q_sg_hc, q_lt_t, q_lt_f, q_le_t, q_le_f, q_eq_t, q_eq_f, ne_eq, eq_self, Bool.false_eq_true, Bool.true_eq_false, not_true_eq_false, not_false_eq_true, true_and, and_true, false_and, and_false, true_or, or_true, false_or, or_false, if_true, if_false, Int.reduceAdd, Int.reduceMul, Int.reduceSub, Int.reduceNeg, R_84_0, R_84_9, R_84_21, R_84_26, R_84_38, R_84_41, R_84_48, R_84_49, R_84_57, R_84_67, R_84_74, R_84_84, R_84_88, R_84_105, R_84_115, R_84_118, R_84_120, R_84_127, R_84_133, R_84_140, C_84_18, C_84_35, C_84_45, C_84_64, C_84_78, C_84_81, C_84_95, C_84_102, C_84_112, C_84_124, C_84_137]
    rw [st]
    show CSp T E C i s l (if tk T E (i + 1) 3 43 then pb (pPart T E (i + 1 + 1)) (fun i' q => pSumL T E 399 i' ([x] ++ q ++ [4000])) else Sum.inr (i + 1, [x])) _
    by_cases cp : tk T E (i + 1) 3 43
    · rw [if_pos cp]
      obtain ⟨t3, n1, n2, n3, n4, n5⟩ := m1 cp
      rw [n1]
      have ih := cc_sumL (d := d) (L := L) (xs := xs) (O := O) (c := c) hr 399 1 i (i + 2) l [x] t3 (.int (q_I v)) (by omega) (by omega) (by omega) n2 hl (by show 1 + 1 + i ≤ i + 2; omega)
      rw [show (0 : Int) + 1 = 1 by omega]
      cases hq : pb (pPart T E (i + 1 + 1)) (fun i' q => pSumL T E 399 i' ([x] ++ q ++ [4000])) with
      | inl e =>
        rw [show i + 2 = i + 1 + 1 by omega, hq] at ih
        obtain ⟨t4, r1, r2, r3⟩ := ih
        exact ⟨t4, r1, r2, FL_trans b9 (FL_trans n5 r3)⟩
      | inr p =>
        rw [show i + 2 = i + 1 + 1 by omega, hq] at ih
        obtain ⟨t4, r1, r2, r3, r4, r5, r6⟩ := ih
        exact ⟨t4, r1, r2, r3, by rw [r4, n3, b7], by rw [r5, n4, b8], FL_trans b9 (FL_trans n5 r6)⟩
    · rw [if_neg cp]
      obtain ⟨t3, n1, n2, n3, n4, n5⟩ := m2 cp
      exact ⟨t3, n1, n2, by show 1 + i ≤ i + 1; omega, by rw [n3, b7], by rw [n4, b8], FL_trans b9 n5⟩
end CLS
