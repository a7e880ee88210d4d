/-! THE CLASS: atoms and conditions of a law -/
section CLA
variable {d L : Nat} {xs : Nat → Int32} {O : Nat → Int64} {c : Bool × Nat × Nat} {T : Int → Int} {E : Int} {C : Nat}
theorem cc_cmp (hr : ∀ j, 0 ≤ j → j < E → 0 ≤ T j ∧ T j ≤ 255) {i : Nat} {l : List Int} {s : Nat → Int → Int32} (i0 : 1 ≤ i) (h : CL T E C i l s) (hl : l.length ≤ i) : CSp T E C i s l (pCmp T E i) (fun v t => EV (d + 2) 83 0 [.ref 67, .null] [] (q_h L xs s O c) = some (.inl (some (.int (q_I (v)))), q_h L xs (t) O c)) := by
  have k := cc_sum (d := d) (L := L) (xs := xs) (O := O) (c := c) hr i0 h hl
  unfold pCmp
  cases hp : pSum T E i with
  | inl e =>
    rw [hp] at k
    obtain ⟨t, a1, a2, a3⟩ := k
    refine ⟨t, ?_, a2, a3⟩
    simp (disch := first | omega | exact q_b_01 _) only [↓reduceIte, q_bk0, q_bk1, q_bk2, q_sg_b, q_b_0, q_b_n0, q_b_1, q_b_n1, q_b_T, q_b_F, q_sg_g, q_sg_sg, q_sg_xs, q_sg_id, q_gu_ne, q_gu_eq, q_g_fne, q_g_cpe, q_w_f, q_v_f, q_u_f, q_fn_f, q_cp_f, q_sg_pg, q_sg_hc, q_lt_t, q_lt_f, q_le_t, q_le_f, q_eq_t, q_eq_f, ne_eq, eq_self, Bool.false_eq_true, Bool.true_eq_false, not_true_eq_false, not_false_eq_true, true_and, and_true, false_and, and_false, true_or, or_true, false_or, or_false, if_true, if_false, Int.reduceAdd, Int.reduceMul, Int.reduceSub, Int.reduceNeg, a1, R_83_0, R_83_4, R_83_7, R_83_9, R_83_19, R_83_24, R_83_34, R_83_37, R_83_44, R_83_45, R_83_52, R_83_56, R_83_59, R_83_61, R_83_69, R_83_75, R_83_81, C_83_1, C_83_16, C_83_31, C_83_41, C_83_49, C_83_53, C_83_78]
  | inr p =>
    rw [hp] at k
    obtain ⟨i1, l1⟩ := p
    obtain ⟨t, a1, a2, a3, a4, a5, a6⟩ := k
    have a3' : l1.length + i ≤ i1 := a3
    have a2' : CL T E C i1 (l ++ l1) t := a2
    have hC := a2'.1.1
    have hi1 := a2'.2.2.1
    have el : (l ++ l1).length = l.length + l1.length := List.length_append
    have is := fun (to : Int) (h2 : -1 ≤ to) (h3 : to ≤ 999) => cc_is (d := d + 1) (L := L) (xs := xs) (O := O) (c := c) (th := 3) (to := to) a2'.1 a2'.2.1 hi1 (by omega) (by omega) h2 h3
    have fin : ∀ op, (op = 4001 ∨ op = 4002) → tk T E i1 3 (if op = 4001 then 60 else 62) → (op = 4002 → ¬ tk T E i1 3 60) → CSp T E C i s l (pb (pSum T E (i1 + 1)) (fun i2 l2 => .inr (i2, l1 ++ l2 ++ [op]))) (fun v t => EV (d + 2) 83 0 [.ref 67, .null] [] (q_h L xs s O c) = some (.inl (some (.int (q_I (v)))), q_h L xs (t) O c)) := fun op ho hk hn => by
      have iC := CL_lt a2' (by have := hk.1; omega)
      have h2 := CL_step a2' iC
      have cs := cc_step (d := d + 1) (L := L) (xs := xs) (O := O) (c := c) a2'.1 a2'.2.1 iC
      have k2 := cc_sum (d := d) (L := L) (xs := xs) (O := O) (c := c) hr (show 1 ≤ i1 + 1 by omega) h2 (by omega)
      have st : ∀ v u, EV (d + 1) 84 0 [.ref 67, .null, .null] [] (q_h L xs (q_u t 2 5 ((i1 + 1 : Nat) : Int)) O c) = some (.inl (some (.int (q_I (v)))), q_h L xs (u) O c) → EV (d + 2) 83 0 [.ref 67, .null] [] (q_h L xs s O c) = EV (d + 2) 83 56 [.ref 67, .int (q_I ((if op = 4001 then 1 else 0)))] [.int (q_I (v))] (q_h L xs (u) O c) := fun v u hu => by
        rcases ho with e | e
        · subst e
          have hk' : tk T E i1 3 60 := hk
          simp (disch := first | omega | exact q_b_01 _) only [↓reduceIte, q_bk0, q_bk1, q_bk2, q_sg_b, q_b_0, q_b_n0, q_b_1, q_b_n1, q_b_T, q_b_F, q_sg_g, q_sg_sg, q_sg_xs, q_sg_id, q_gu_ne, q_gu_eq, q_g_fne, q_g_cpe, q_w_f, q_v_f, q_u_f, q_fn_f, q_cp_f, q_sg_pg, q_sg_hc, q_lt_t, q_lt_f, q_le_t, q_le_f, q_eq_t, q_eq_f, ne_eq, eq_self, Bool.false_eq_true, Bool.true_eq_false, not_true_eq_false, not_false_eq_true, true_and, and_true, false_and, and_false, true_or, or_true, false_or, or_false, if_true, if_false, Int.reduceAdd, Int.reduceMul, Int.reduceSub, Int.reduceNeg, a1, is 60, q_bt hk', cs, hu, R_83_0, R_83_4, R_83_7, R_83_9, R_83_19, R_83_24, R_83_34, R_83_37, R_83_44, R_83_45, R_83_52, R_83_59, R_83_61, R_83_69, R_83_75, R_83_81, C_83_1, C_83_16, C_83_31, C_83_41, C_83_49, C_83_53, C_83_78]
        · subst e
          have hk' : tk T E i1 3 62 := hk
          simp (disch := first | omega | exact q_b_01 _) only [↓reduceIte, q_bk0, q_bk1, q_bk2, q_sg_b, q_b_0, q_b_n0, q_b_1, q_b_n1, q_b_T, q_b_F, q_sg_g, q_sg_sg, q_sg_xs, q_sg_id, q_gu_ne, q_gu_eq, q_g_fne, q_g_cpe, q_w_f, q_v_f, q_u_f, q_fn_f, q_cp_f, q_sg_pg, q_sg_hc, q_lt_t, q_lt_f, q_le_t, q_le_f, q_eq_t, q_eq_f, ne_eq, eq_self, Bool.false_eq_true, Bool.true_eq_false, not_true_eq_false, not_false_eq_true, true_and, and_true, false_and, and_false, true_or, or_true, false_or, or_false, if_true, if_false, Int.reduceAdd, Int.reduceMul, Int.reduceSub, Int.reduceNeg, a1, is 60, is 62, q_bf (hn rfl), q_bt hk', cs, hu, R_83_0, R_83_4, R_83_7, R_83_9, R_83_19, R_83_24, R_83_34, R_83_37, R_83_44, R_83_45, R_83_52, R_83_59, R_83_61, R_83_69, R_83_75, R_83_81, C_83_1, C_83_16, C_83_31, C_83_41, C_83_49, C_83_53, C_83_78]
      have F : FL s (q_u t 2 5 ((i1 + 1 : Nat) : Int)) := FL_u a6 (by omega)
      cases hq : pSum T E (i1 + 1) with
      | inl e =>
        rw [hq] at k2
        obtain ⟨u, b1, b2, b3⟩ := k2
        refine ⟨u, ?_, b2, FL_trans F b3⟩
        rw [st _ _ b1]
        simp (disch := first | omega | exact q_b_01 _) only [↓reduceIte, q_bk0, q_bk1, q_bk2, q_sg_b, q_b_0, q_b_n0, q_b_1, q_b_n1, q_b_T, q_b_F, q_sg_g, q_sg_sg, q_sg_xs, q_sg_id, q_gu_ne, q_gu_eq, q_g_fne, q_g_cpe, q_w_f, q_v_f, q_u_f, q_fn_f, q_cp_f, q_sg_pg, q_sg_hc, q_lt_t, q_lt_f, q_le_t, q_le_f, q_eq_t, q_eq_f, ne_eq, eq_self, Bool.false_eq_true, Bool.true_eq_false, not_true_eq_false, not_false_eq_true, true_and, and_true, false_and, and_false, true_or, or_true, false_or, or_false, if_true, if_false, Int.reduceAdd, Int.reduceMul, Int.reduceSub, Int.reduceNeg, R_83_0, R_83_4, R_83_7, R_83_9, R_83_19, R_83_24, R_83_34, R_83_37, R_83_44, R_83_45, R_83_52, R_83_56, R_83_59, R_83_61, R_83_69, R_83_75, R_83_81, C_83_1, C_83_16, C_83_31, C_83_41, C_83_49, C_83_53, C_83_78]
      | inr p =>
        rw [hq] at k2
        obtain ⟨i2, l2⟩ := p
        obtain ⟨u, b1, b2, b3, b4, b5, b6⟩ := k2
        have b3' : l2.length + (i1 + 1) ≤ i2 := b3
        have b2' : CL T E C i2 ((l ++ l1) ++ l2) u := b2
        have hi2 := b2'.2.2.1
        have el2 : ((l ++ l1) ++ l2).length = l.length + l1.length + l2.length := by rw [List.length_append, el]
        obtain ⟨w, g1, g2, g3, g4, g5⟩ := cc_addCode (d := d + 1) (L := L) (xs := xs) (O := O) (c := c) (x := op) b2' (by omega) (by omega) (by omega)
        rw [show ((l ++ l1) ++ l2) ++ [op] = l ++ (l1 ++ l2 ++ [op]) by simp] at g2
        refine ⟨w, ?_, g2, ?_, ?_, ?_, FL_trans F (FL_trans b6 g5)⟩
        · rw [st _ _ b1]
          rcases ho with e | e
          · subst e
            simp (disch := first | omega | exact q_b_01 _) only [↓reduceIte, q_bk0, q_bk1, q_bk2, q_sg_b, q_b_0, q_b_n0, q_b_1, q_b_n1, q_b_T, q_b_F, q_sg_g, q_sg_sg, q_sg_xs, q_sg_id, q_gu_ne, q_gu_eq, q_g_fne, q_g_cpe, q_w_f, q_v_f, q_u_f, q_fn_f, q_cp_f, q_sg_pg, q_sg_hc, q_lt_t, q_lt_f, q_le_t, q_le_f, q_eq_t, q_eq_f, ne_eq, eq_self, Bool.false_eq_true, Bool.true_eq_false, not_true_eq_false, not_false_eq_true, true_and, and_true, false_and, and_false, true_or, or_true, false_or, or_false, if_true, if_false, Int.reduceAdd, Int.reduceMul, Int.reduceSub, Int.reduceNeg, g1, R_83_0, R_83_4, R_83_7, R_83_9, R_83_19, R_83_24, R_83_34, R_83_37, R_83_44, R_83_45, R_83_52, R_83_56, R_83_59, R_83_61, R_83_69, R_83_75, R_83_81, C_83_1, C_83_16, C_83_31, C_83_41, C_83_49, C_83_53, C_83_78]
          · subst e
            simp (disch := first | omega | exact q_b_01 _) only [↓reduceIte, q_bk0, q_bk1, q_bk2, q_sg_b, q_b_0, q_b_n0, q_b_1, q_b_n1, q_b_T, q_b_F, q_sg_g, q_sg_sg, q_sg_xs, q_sg_id, q_gu_ne, q_gu_eq, q_g_fne, q_g_cpe, q_w_f, q_v_f, q_u_f, q_fn_f, q_cp_f, q_sg_pg, q_sg_hc, q_lt_t, q_lt_f, q_le_t, q_le_f, q_eq_t, q_eq_f, ne_eq, eq_self, Bool.false_eq_true, Bool.true_eq_false, not_true_eq_false, not_false_eq_true, true_and, and_true, false_and, and_false, true_or, or_true, false_or, or_false, if_true, if_false, Int.reduceAdd, Int.reduceMul, Int.reduceSub, Int.reduceNeg, g1, R_83_0, R_83_4, R_83_7, R_83_9, R_83_19, R_83_24, R_83_34, R_83_37, R_83_44, R_83_45, R_83_52, R_83_56, R_83_59, R_83_61, R_83_69, R_83_75, R_83_81, C_83_1, C_83_16, C_83_31, C_83_41, C_83_49, C_83_53, C_83_78]
        · show (l1 ++ l2 ++ [op]).length + i ≤ i2
          simp only [List.length_append, List.length_cons, List.length_nil]
          omega
        · rw [g3, b4, q_gu_ne (by omega), a4]
        · rw [g4, b5, q_gu_ne (by omega), a5]
    show CSp T E C i s l (if tk T E i1 3 60 then _ else if tk T E i1 3 62 then _ else _) _
    by_cases c1 : tk T E i1 3 60
    · rw [if_pos c1]
      exact fin 4001 (Or.inl rfl) c1 (fun e => by omega)
    · rw [if_neg c1]
      by_cases c2 : tk T E i1 3 62
      · rw [if_pos c2]
        exact fin 4002 (Or.inr rfl) c2 (fun _ => c1)
      · rw [if_neg c2]
        obtain ⟨u, b1, b2, b3⟩ := cc_ref (d := d + 1) (L := L) (xs := xs) (O := O) (c := c) a2'
        refine ⟨u, ?_, b2, FL_trans a6 b3⟩
        simp (disch := first | omega | exact q_b_01 _) only [↓reduceIte, q_bk0, q_bk1, q_bk2, q_sg_b, q_b_0, q_b_n0, q_b_1, q_b_n1, q_b_T, q_b_F, q_sg_g, q_sg_sg, q_sg_xs, q_sg_id, q_gu_ne, q_gu_eq, q_g_fne, q_g_cpe, q_w_f, q_v_f, q_u_f, q_fn_f, q_cp_f, q_sg_pg, q_sg_hc, q_lt_t, q_lt_f, q_le_t, q_le_f, q_eq_t, q_eq_f, ne_eq, eq_self, Bool.false_eq_true, Bool.true_eq_false, not_true_eq_false, not_false_eq_true, true_and, and_true, false_and, and_false, true_or, or_true, false_or, or_false, if_true, if_false, Int.reduceAdd, Int.reduceMul, Int.reduceSub, Int.reduceNeg, a1, is 60, is 62, q_bf c1, q_bf c2, b1, R_83_0, R_83_4, R_83_7, R_83_9, R_83_19, R_83_24, R_83_34, R_83_37, R_83_44, R_83_45, R_83_52, R_83_56, R_83_59, R_83_61, R_83_69, R_83_75, R_83_81, C_83_1, C_83_16, C_83_31, C_83_41, C_83_49, C_83_53, C_83_78]
/-- an atom that is neither denied nor enclosed -/
theorem cc_plain (hr : ∀ j, 0 ≤ j → j < E → 0 ≤ T j ∧ T j ≤ 255) {i : Nat} {x : Int} {l : List Int} {s : Nat → Int → Int32} (i0 : 1 ≤ i) (h : CL T E C i l s) (hl : l.length ≤ i) (n1 : ¬ tk T E i 1 8) (n2 : ¬ tk T E i 3 40) : CSp T E C i s l (pPlain T E i) (fun v t => EV (d + 3) 80 0 [.ref 67, .int (q_I (x)), .null] [] (q_h L xs s O c) = some (.inl (some (.int (q_I (v)))), q_h L xs (t) O c)) := by
  have hC := h.1.1
  have hi := h.2.2.1
  have ia := cc_is (d := d + 2) (L := L) (xs := xs) (O := O) (c := c) (th := 1) (to := 8) h.1 h.2.1 hi (by omega) (by omega) (by omega) (by omega)
  have ib := cc_is (d := d + 2) (L := L) (xs := xs) (O := O) (c := c) (th := 3) (to := 40) h.1 h.2.1 hi (by omega) (by omega) (by omega) (by omega)
  have w := cc_isWithin (d := d + 2) (L := L) (xs := xs) (O := O) (c := c) (th := 1) (lo := 9) (hi' := 11) h.1 h.2.1 hi (by omega) (by omega) (by omega) (by omega) (by omega) (by omega)
  unfold pPlain
  by_cases c1 : thg T E (bs T E i) = 1 ∧ 9 ≤ tel T E (bs T E i) ∧ tel T E (bs T E i) ≤ 11
  · rw [if_pos c1]
    have iC := CL_lt h (by omega)
    have ct := cc_told (d := d + 2) (L := L) (xs := xs) (O := O) (c := c) h.1 h.2.1 hi
    obtain ⟨t, a1, a2, a3, a4, a5⟩ := cc_addCode (d := d + 2) (L := L) (xs := xs) (O := O) (c := c) (x := 2000 + tel T E (bs T E i) - 9) h (by omega) (by omega) (by omega)
    have cs := cc_step (d := d + 2) (L := L) (xs := xs) (O := O) (c := c) a2.1 a2.2.1 iC
    refine ⟨_, ?_, CL_step a2 iC, by show 1 + i ≤ i + 1; omega, by rw [q_gu_ne (by omega), a3], by rw [q_gu_ne (by omega), a4], FL_u a5 (by omega)⟩
    simp (disch := first | omega | exact q_b_01 _) only [↓reduceIte, q_bk0, q_bk1, q_bk2, q_sg_b, q_b_0, q_b_n0, q_b_1, q_b_n1, q_b_T, q_b_F, q_sg_g, q_sg_sg, q_sg_xs, q_sg_id, q_gu_ne, q_gu_eq, q_g_fne, q_g_cpe, q_w_f, q_v_f, q_u_f, q_fn_f, q_cp_f, q_sg_pg, q_sg_hc, q_lt_t, q_lt_f, q_le_t, q_le_f, q_eq_t, q_eq_f, ne_eq, eq_self, Bool.false_eq_true, Bool.true_eq_false, not_true_eq_false, not_false_eq_true, true_and, and_true, false_and, and_false, true_or, or_true, false_or, or_false, if_true, if_false, Int.reduceAdd, Int.reduceMul, Int.reduceSub, Int.reduceNeg, ia, ib, w, q_bf n1, q_bf n2, q_bt c1, ct, a1, cs, R_80_0, R_80_10, R_80_15, R_80_25, R_80_28, R_80_34, R_80_41, R_80_42, R_80_49, R_80_53, R_80_60, R_80_63, R_80_70, R_80_71, R_80_83, R_80_86, R_80_90, R_80_91, R_80_105, R_80_112, R_80_119, C_80_7, C_80_22, C_80_38, C_80_46, C_80_57, C_80_67, C_80_80, C_80_87, C_80_102, C_80_109, C_80_116]
  · rw [if_neg c1]
    have k := cc_cmp (d := d) (L := L) (xs := xs) (O := O) (c := c) hr i0 h hl
    cases hp : pCmp T E i with
    | inl e =>
      rw [hp] at k
      obtain ⟨t, a1, a2, a3⟩ := k
      refine ⟨t, ?_, a2, a3⟩
      simp (disch := first | omega | exact q_b_01 _) only [↓reduceIte, q_bk0, q_bk1, q_bk2, q_sg_b, q_b_0, q_b_n0, q_b_1, q_b_n1, q_b_T, q_b_F, q_sg_g, q_sg_sg, q_sg_xs, q_sg_id, q_gu_ne, q_gu_eq, q_g_fne, q_g_cpe, q_w_f, q_v_f, q_u_f, q_fn_f, q_cp_f, q_sg_pg, q_sg_hc, q_lt_t, q_lt_f, q_le_t, q_le_f, q_eq_t, q_eq_f, ne_eq, eq_self, Bool.false_eq_true, Bool.true_eq_false, not_true_eq_false, not_false_eq_true, true_and, and_true, false_and, and_false, true_or, or_true, false_or, or_false, if_true, if_false, Int.reduceAdd, Int.reduceMul, Int.reduceSub, Int.reduceNeg, ia, ib, w, q_bf n1, q_bf n2, q_bf c1, a1, R_80_0, R_80_10, R_80_15, R_80_25, R_80_28, R_80_34, R_80_41, R_80_42, R_80_49, R_80_53, R_80_60, R_80_63, R_80_70, R_80_71, R_80_83, R_80_86, R_80_90, R_80_91, R_80_105, R_80_112, R_80_119, C_80_7, C_80_22, C_80_38, C_80_46, C_80_57, C_80_67, C_80_80, C_80_87, C_80_102, C_80_109, C_80_116]
    | inr p =>
      rw [hp] at k
      obtain ⟨t, a1, a2⟩ := k
      refine ⟨t, ?_, a2⟩
      simp (disch := first | omega | exact q_b_01 _) only [↓reduceIte, q_bk0, q_bk1, q_bk2, q_sg_b, q_b_0, q_b_n0, q_b_1, q_b_n1, q_b_T, q_b_F, q_sg_g, q_sg_sg, q_sg_xs, q_sg_id, q_gu_ne, q_gu_eq, q_g_fne, q_g_cpe, q_w_f, q_v_f, q_u_f, q_fn_f, q_cp_f, q_sg_pg, q_sg_hc, q_lt_t, q_lt_f, q_le_t, q_le_f, q_eq_t, q_eq_f, ne_eq, eq_self, Bool.false_eq_true, Bool.true_eq_false, not_true_eq_false, not_false_eq_true, true_and, and_true, false_and, and_false, true_or, or_true, false_or, or_false, if_true, if_false, Int.reduceAdd, Int.reduceMul, Int.reduceSub, Int.reduceNeg, ia, ib, w, q_bf n1, q_bf n2, q_bf c1, a1, R_80_0, R_80_10, R_80_15, R_80_25, R_80_28, R_80_34, R_80_41, R_80_42, R_80_49, R_80_53, R_80_60, R_80_63, R_80_70, R_80_71, R_80_83, R_80_86, R_80_90, R_80_91, R_80_105, R_80_112, R_80_119, C_80_7, C_80_22, C_80_38, C_80_46, C_80_57, C_80_67, C_80_80, C_80_87, C_80_102, C_80_109, C_80_116]
end CLA
