/-! THE CLASS: a text of a law -/
def LSt (ls : List (Int × Int × List Int)) (s : Nat → Int → Int32) : Prop := q_g s 55 0 = ls.length ∧ ls.length ≤ 12 ∧ ∀ k : Nat, k < ls.length → q_g s 56 k = (ls.getD k (0, 0, [])).1 ∧ q_g s 57 k = (ls.getD k (0, 0, [])).2.1 ∧ q_g s 58 k = (fl (ls.take (k + 1))).length
def FLL (s t : Nat → Int → Int32) : Prop := ∀ k z, (k < 55 ∨ 59 < k) → ¬ (k = 2 ∧ (z = 5 ∨ z = 6)) → t k z = s k z
section CLL
variable {d L : Nat} {xs : Nat → Int32} {O : Nat → Int64} {c : Bool × Nat × Nat} {T : Int → Int} {E : Int} {C : Nat} {s t u : Nat → Int → Int32}
theorem fl_app (a b : List (Int × Int × List Int)) : fl (a ++ b) = fl a ++ fl b := by
  induction a with
  | nil => rfl
  | cons x r ih =>
    show x.2.2 ++ fl (r ++ b) = (x.2.2 ++ fl r) ++ fl b
    rw [ih, List.append_assoc]
theorem FLL_of (h : FL s t) : FLL s t := fun k z a b => h k z (by omega) (by omega) b
theorem FLL_trans (h : FLL s t) (h' : FLL t u) : FLL s u := fun k z a b => (h' k z a b).trans (h k z a b)
theorem FLL_u {k : Nat} {z v : Int} (h : FLL s t) (hk : 55 ≤ k ∧ k ≤ 59 ∨ k = 2 ∧ (z = 5 ∨ z = 6)) : FLL s (q_u t k z v) := fun k' z' a1 a2 => by
  rw [q_u_n (by omega), h k' z' a1 a2]
theorem LSt_fr {ls : List (Int × Int × List Int)} (h : LSt ls s) (hF : FL s t) (h0 : q_g t 55 0 = q_g s 55 0) : LSt ls t := by
  refine ⟨by rw [h0, h.1], h.2.1, fun k hk => ?_⟩
  rw [FL_g hF (by decide) (by decide) (by omega), FL_g hF (by decide) (by decide) (by omega), FL_g hF (by decide) (by decide) (by omega)]
  exact h.2.2 k hk
theorem cc_addLine {w n : Int} {i : Nat} {l : List Int} {ls : List (Int × Int × List Int)} (h : CL T E C i (fl ls ++ l) s) (hS : LSt ls s) (hl : ls.length < 12) (hc : (fl ls ++ l).length ≤ 400) (w0 : 0 ≤ w) (w1 : w < 1000) (n0 : 0 ≤ n) (n1 : n < 1000) : ∃ t, EV (d) 71 0 [.ref 55, .int (q_I (w)), .int (q_I (n))] [] (q_h L xs s O c) = some (.inl none, q_h L xs (t) O c) ∧ CL T E C i (fl (ls ++ [(w, n, l)])) t ∧ LSt (ls ++ [(w, n, l)]) t ∧ q_g t 2 6 = q_g s 2 6 ∧ FLL s t := by
  obtain ⟨h1, h2, h3, h4, h5⟩ := h
  obtain ⟨k1, k2, k3⟩ := hS
  have ef : fl (ls ++ [(w, n, l)]) = fl ls ++ l := by
    rw [fl_app]
    show fl ls ++ (l ++ []) = _
    rw [List.append_nil]
  have ga : q_g (q_u s 56 (ls.length : Int) w) 55 0 = (ls.length : Int) := by rw [q_gu_ne (by omega), k1]
  have gb : q_g (q_u (q_u s 56 (ls.length : Int) w) 57 (ls.length : Int) n) 55 0 = (ls.length : Int) := by rw [q_gu_ne (by omega), ga]
  have gc : q_g (q_u (q_u s 56 (ls.length : Int) w) 57 (ls.length : Int) n) 55 5 = ((fl ls ++ l).length : Int) := by rw [q_gu_ne (by omega), q_gu_ne (by omega), h4]
  have gd : q_g (q_u (q_u (q_u s 56 (ls.length : Int) w) 57 (ls.length : Int) n) 58 (ls.length : Int) ((fl ls ++ l).length : Int)) 55 0 = (ls.length : Int) := by rw [q_gu_ne (by omega), gb]
  have el : (ls ++ [(w, n, l)]).length = ls.length + 1 := by simp
  refine ⟨q_u (q_u (q_u (q_u s 56 (ls.length : Int) w) 57 (ls.length : Int) n) 58 (ls.length : Int) ((fl ls ++ l).length : Int)) 55 0 ((ls.length : Int) + 1), ?_, ?_, ⟨?_, by omega, fun k hk => ?_⟩, ?_, FLL_u (FLL_u (FLL_u (FLL_u (fun _ _ _ _ => rfl) (by omega)) (by omega)) (by omega)) (by omega)⟩
  · simp (disch := first | omega | exact q_b_01 _) only [↓reduceIte, q_bk0, q_bk1, q_bk2, q_sg_b, q_b_0, q_b_n0, q_b_1, q_b_n1, q_b_T, q_b_F, q_sg_g, q_sg_sg, q_sg_xs, q_sg_id, q_gu_ne, q_gu_eq, q_g_fne, q_g_cpe, q_w_f, q_v_f, q_u_f, q_fn_f, q_cp_f, q_sg_pg, q_sg_hc, q_lt_t, q_lt_f, q_le_t, q_le_f, q_eq_t, q_eq_f, ne_eq, eq_self, Bool.false_eq_true, Bool.true_eq_false, not_true_eq_false, not_false_eq_true, true_and, and_true, false_and, and_false, true_or, or_true, false_or, or_false, if_true, if_false, Int.reduceAdd, Int.reduceMul, Int.reduceSub, Int.reduceNeg, k1, ga, gb, gc, gd, R_71_0, R_71_7, R_71_16, R_71_26, R_71_36, R_71_49, R_71_59]
  · rw [ef]
    refine ⟨TS_u (TS_u (TS_u (TS_u h1 (by omega)) (by omega)) (by omega)) (by omega), ?_, h3, ?_, fun k hk => ?_⟩
    · rw [q_gu_ne (by omega), q_gu_ne (by omega), q_gu_ne (by omega), q_gu_ne (by omega), h2]
    · rw [q_gu_ne (by omega), q_gu_ne (by omega), q_gu_ne (by omega), q_gu_ne (by omega), h4]
    · rw [q_gu_ne (by omega), q_gu_ne (by omega), q_gu_ne (by omega), q_gu_ne (by omega)]
      exact h5 k hk
  · rw [q_gu_eq rfl, q_sg_id (by omega) (by omega), el]
    omega
  · rw [el] at hk
    have e6 : q_g (q_u (q_u (q_u (q_u s 56 (ls.length : Int) w) 57 (ls.length : Int) n) 58 (ls.length : Int) ((fl ls ++ l).length : Int)) 55 0 ((ls.length : Int) + 1)) 56 k = q_g (q_u s 56 (ls.length : Int) w) 56 k := by rw [q_gu_ne (by omega), q_gu_ne (by omega), q_gu_ne (by omega)]
    have e7 : q_g (q_u (q_u (q_u (q_u s 56 (ls.length : Int) w) 57 (ls.length : Int) n) 58 (ls.length : Int) ((fl ls ++ l).length : Int)) 55 0 ((ls.length : Int) + 1)) 57 k = q_g (q_u (q_u s 56 (ls.length : Int) w) 57 (ls.length : Int) n) 57 k := by rw [q_gu_ne (by omega), q_gu_ne (by omega)]
    have e8 : q_g (q_u (q_u (q_u (q_u s 56 (ls.length : Int) w) 57 (ls.length : Int) n) 58 (ls.length : Int) ((fl ls ++ l).length : Int)) 55 0 ((ls.length : Int) + 1)) 58 k = q_g (q_u (q_u (q_u s 56 (ls.length : Int) w) 57 (ls.length : Int) n) 58 (ls.length : Int) ((fl ls ++ l).length : Int)) 58 k := by rw [q_gu_ne (by omega)]
    rw [e6, e7, e8]
    by_cases e : k = ls.length
    · subst e
      rw [q_gu_eq rfl, q_gu_eq rfl, q_gu_eq rfl, q_sg_id (by omega) (by omega), q_sg_id (by omega) (by omega), q_sg_id (by omega) (by omega)]
      have tt : (ls ++ [(w, n, l)]).take (ls.length + 1) = ls ++ [(w, n, l)] := List.take_of_length_le (by omega)
      rw [tt, ef]
      simp [List.getD_eq_getElem?_getD]
    · have kl : k < ls.length := by omega
      rw [q_gu_ne (by omega), q_gu_ne (by omega), q_gu_ne (by omega), q_gu_ne (by omega), q_gu_ne (by omega), q_gu_ne (by omega)]
      have tt : (ls ++ [(w, n, l)]).take (k + 1) = ls.take (k + 1) := List.take_append_of_le_length (by omega)
      have tg : (ls ++ [(w, n, l)]).getD k (0, 0, []) = ls.getD k (0, 0, []) := by simp [List.getD_eq_getElem?_getD, List.getElem?_append_left kl]
      rw [tt, tg]
      exact k3 k kl
  · rw [q_gu_ne (by omega), q_gu_ne (by omega), q_gu_ne (by omega), q_gu_ne (by omega)]
theorem cc_lline (hr : ∀ j, 0 ≤ j → j < E → 0 ≤ T j ∧ T j ≤ 255) {i : Nat} {ls : List (Int × Int × List Int)} (h : CL T E C i (fl ls) s) (hS : LSt ls s) (hl : ls.length < 12) (hc : (fl ls).length ≤ i) : match lLine T E i with
    | .inl e => ∃ t, EV (d + 23) 78 0 [.ref 67, .null, .null] [] (q_h L xs s O c) = some (.inl (some (.int (q_I (0)))), q_h L xs (t) O c) ∧ q_g t 2 6 = e ∧ FLL s t
    | .inr p => ∃ t, EV (d + 23) 78 0 [.ref 67, .null, .null] [] (q_h L xs s O c) = some (.inl (some (.int (q_I (1)))), q_h L xs (t) O c) ∧ CL T E C p.1 (fl (ls ++ [p.2])) t ∧ LSt (ls ++ [p.2]) t ∧ (fl (ls ++ [p.2])).length ≤ p.1 ∧ q_g t 2 6 = q_g s 2 6 ∧ FLL s t := by
  have hC := h.1.1
  have hi := h.2.2.1
  have w1 := cc_isWithin (d := d + 22) (L := L) (xs := xs) (O := O) (c := c) (th := 1) (lo := 2) (hi' := 4) h.1 h.2.1 hi (by omega) (by omega) (by omega) (by omega) (by omega) (by omega)
  unfold lLine
  by_cases c1 : thg T E (bs T E i) = 1 ∧ 2 ≤ tel T E (bs T E i) ∧ tel T E (bs T E i) ≤ 4
  · rw [if_pos c1]
    have iC := CL_lt h (by omega)
    have ct := cc_told (d := d + 22) (L := L) (xs := xs) (O := O) (c := c) h.1 h.2.1 hi
    have cs := cc_step (d := d + 22) (L := L) (xs := xs) (O := O) (c := c) h.1 h.2.1 iC
    have h2 := CL_step h iC
    have F2 : FL s (q_u s 2 5 ((i + 1 : Nat) : Int)) := FL_u FL_refl (by omega)
    have hS2 := LSt_fr hS F2 (by rw [q_gu_ne (by omega)])
    have w2 := cc_isWithin (d := d + 22) (L := L) (xs := xs) (O := O) (c := c) (th := 2) (lo := 0) (hi' := 99) h2.1 h2.2.1 h2.2.2.1 (by omega) (by omega) (by omega) (by omega) (by omega) (by omega)
    by_cases c2 : thg T E (bs T E (i + 1)) = 2 ∧ 0 ≤ tel T E (bs T E (i + 1)) ∧ tel T E (bs T E (i + 1)) ≤ 99
    · rw [if_pos c2]
      have iC2 := CL_lt h2 (by omega)
      have ct2 := cc_told (d := d + 22) (L := L) (xs := xs) (O := O) (c := c) h2.1 h2.2.1 h2.2.2.1
      have cs2 := cc_step (d := d + 22) (L := L) (xs := xs) (O := O) (c := c) h2.1 h2.2.1 iC2
      have h3 := CL_step h2 iC2
      have e2 : i + 1 + 1 = i + 2 := rfl
      rw [e2] at cs2 h3
      have F3 : FL s (q_u (q_u s 2 5 ((i + 1 : Nat) : Int)) 2 5 ((i + 2 : Nat) : Int)) := FL_u F2 (by omega)
      have hS3 := LSt_fr hS F3 (by rw [q_gu_ne (by omega), q_gu_ne (by omega)])
      have w6 : q_g (q_u (q_u s 2 5 ((i + 1 : Nat) : Int)) 2 5 ((i + 2 : Nat) : Int)) 2 6 = q_g s 2 6 := by rw [q_gu_ne (by omega), q_gu_ne (by omega)]
      generalize hs3 : q_u (q_u s 2 5 ((i + 1 : Nat) : Int)) 2 5 ((i + 2 : Nat) : Int) = s3 at cs2 h3 F3 hS3 w6
      have is := cc_is (d := d + 22) (L := L) (xs := xs) (O := O) (c := c) (th := 1) (to := 5) h3.1 h3.2.1 h3.2.2.1 (by omega) (by omega) (by omega) (by omega)
      by_cases c3 : tk T E (i + 2) 1 5
      · rw [if_pos c3]
        have iC3 := CL_lt h3 (by have := c3.1; omega)
        have cs3 := cc_step (d := d + 22) (L := L) (xs := xs) (O := O) (c := c) h3.1 h3.2.1 iC3
        have h4 := CL_step h3 iC3
        have F4 : FL s (q_u s3 2 5 ((i + 2 + 1 : Nat) : Int)) := FL_u F3 (by omega)
        have k := cc_cond (cc_atom (L := L) (xs := xs) (O := O) (c := c) (C := C) hr 6 (d + 21) (by omega) (by omega)) (show 1 ≤ i + 2 + 1 by omega) h4 (by omega)
        rw [show (6 - ((6 : Nat) : Int)) = 0 by omega] at k
        have e3 : i + 2 + 1 = i + 3 := rfl
        rw [e3] at k
        cases ha : pC T E (pAtom T E 6) (i + 3) with
        | inl e =>
          rw [ha] at k
          obtain ⟨t, a1, a2, a3⟩ := k
          refine ⟨t, ?_, a2, FLL_of (FL_trans F4 a3)⟩
          simp (disch := first | omega | exact q_b_01 _) only [↓reduceIte, q_bk0, q_bk1, q_bk2, q_sg_b, q_b_0, q_b_n0, q_b_1, q_b_n1, q_b_T, q_b_F, q_sg_g, q_sg_sg, q_sg_xs, q_sg_id, q_gu_ne, q_gu_eq, q_g_fne, q_g_cpe, q_w_f, q_v_f, q_u_f, q_fn_f, q_cp_f, q_sg_pg, q_sg_hc, q_lt_t, q_lt_f, q_le_t, q_le_f, q_eq_t, q_eq_f, ne_eq, eq_self, Bool.false_eq_true, Bool.true_eq_false, not_true_eq_false, not_false_eq_true, true_and, and_true, false_and, and_false, true_or, or_true, false_or, or_false, if_true, if_false, Int.reduceAdd, Int.reduceMul, Int.reduceSub, Int.reduceNeg, w1, q_bt c1, ct, cs, w2, q_bt c2, ct2, cs2, is, q_bt c3, cs3, a1, R_78_0, R_78_10, R_78_13, R_78_20, R_78_21, R_78_28, R_78_36, R_78_47, R_78_50, R_78_57, R_78_58, R_78_65, R_78_73, R_78_82, R_78_85, R_78_92, R_78_97, R_78_100, R_78_102, R_78_111, C_78_7, C_78_17, C_78_25, C_78_33, C_78_44, C_78_54, C_78_62, C_78_70, C_78_79, C_78_89, C_78_94, C_78_108]
        | inr p =>
          rw [ha] at k
          obtain ⟨i', q⟩ := p
          obtain ⟨t, a1, a2, a3, a4, a5, a6⟩ := k
          have a3' : q.length + (i + 3) ≤ i' := a3
          have a2' : CL T E C i' (fl ls ++ q) t := a2
          have hi' := a2'.2.2.1
          have el : (fl ls ++ q).length = (fl ls).length + q.length := List.length_append
          have hS4 : LSt ls t := LSt_fr hS (FL_trans F4 a6) (by rw [a5, q_gu_ne (by omega), ← hs3, q_gu_ne (by omega), q_gu_ne (by omega)])
          obtain ⟨u, g1, g2, g3, g4, g5⟩ := cc_addLine (d := d + 22) (L := L) (xs := xs) (O := O) (c := c) (w := tel T E (bs T E i)) (n := tel T E (bs T E (i + 1))) a2' hS4 hl (by omega) (by omega) (by omega) (by omega) (by omega)
          refine ⟨u, ?_, g2, g3, ?_, ?_, FLL_trans (FLL_of (FL_trans F4 a6)) g5⟩
          · simp (disch := first | omega | exact q_b_01 _) only [↓reduceIte, q_bk0, q_bk1, q_bk2, q_sg_b, q_b_0, q_b_n0, q_b_1, q_b_n1, q_b_T, q_b_F, q_sg_g, q_sg_sg, q_sg_xs, q_sg_id, q_gu_ne, q_gu_eq, q_g_fne, q_g_cpe, q_w_f, q_v_f, q_u_f, q_fn_f, q_cp_f, q_sg_pg, q_sg_hc, q_lt_t, q_lt_f, q_le_t, q_le_f, q_eq_t, q_eq_f, ne_eq, eq_self, Bool.false_eq_true, Bool.true_eq_false, not_true_eq_false, not_false_eq_true, true_and, and_true, false_and, and_false, true_or, or_true, false_or, or_false, if_true, if_false, Int.reduceAdd, Int.reduceMul, Int.reduceSub, Int.reduceNeg, w1, q_bt c1, ct, cs, w2, q_bt c2, ct2, cs2, is, q_bt c3, cs3, a1, g1, R_78_0, R_78_10, R_78_13, R_78_20, R_78_21, R_78_28, R_78_36, R_78_47, R_78_50, R_78_57, R_78_58, R_78_65, R_78_73, R_78_82, R_78_85, R_78_92, R_78_97, R_78_100, R_78_102, R_78_111, C_78_7, C_78_17, C_78_25, C_78_33, C_78_44, C_78_54, C_78_62, C_78_70, C_78_79, C_78_89, C_78_94, C_78_108]
          · show (fl (ls ++ [(tel T E (bs T E i), tel T E (bs T E (i + 1)), q)])).length ≤ i'
            rw [fl_app]
            show (fl ls ++ (q ++ [])).length ≤ i'
            rw [List.append_nil]
            omega
          · rw [g4, a4, q_gu_ne (by omega), w6]
      · rw [if_neg c3]
        have h3' : CL T E C (i + 2) (fl ls ++ []) s3 := by rw [List.append_nil]; exact h3
        have el : (fl ls ++ []).length = (fl ls).length := by rw [List.append_nil]
        obtain ⟨u, g1, g2, g3, g4, g5⟩ := cc_addLine (d := d + 22) (L := L) (xs := xs) (O := O) (c := c) (w := tel T E (bs T E i)) (n := tel T E (bs T E (i + 1))) h3' hS3 hl (by omega) (by omega) (by omega) (by omega) (by omega)
        refine ⟨u, ?_, g2, g3, ?_, by rw [g4, w6], FLL_trans (FLL_of F3) g5⟩
        · simp (disch := first | omega | exact q_b_01 _) only [↓reduceIte, q_bk0, q_bk1, q_bk2, q_sg_b, q_b_0, q_b_n0, q_b_1, q_b_n1, q_b_T, q_b_F, q_sg_g, q_sg_sg, q_sg_xs, q_sg_id, q_gu_ne, q_gu_eq, q_g_fne, q_g_cpe, q_w_f, q_v_f, q_u_f, q_fn_f, q_cp_f, q_sg_pg, q_sg_hc, q_lt_t, q_lt_f, q_le_t, q_le_f, q_eq_t, q_eq_f, ne_eq, eq_self, Bool.false_eq_true, Bool.true_eq_false, not_true_eq_false, not_false_eq_true, true_and, and_true, false_and, and_false, true_or, or_true, false_or, or_false, if_true, if_false, Int.reduceAdd, Int.reduceMul, Int.reduceSub, Int.reduceNeg, w1, q_bt c1, ct, cs, w2, q_bt c2, ct2, cs2, is, q_bf c3, g1, R_78_0, R_78_10, R_78_13, R_78_20, R_78_21, R_78_28, R_78_36, R_78_47, R_78_50, R_78_57, R_78_58, R_78_65, R_78_73, R_78_82, R_78_85, R_78_92, R_78_97, R_78_100, R_78_102, R_78_111, C_78_7, C_78_17, C_78_25, C_78_33, C_78_44, C_78_54, C_78_62, C_78_70, C_78_79, C_78_89, C_78_94, C_78_108]
        · show (fl (ls ++ [(tel T E (bs T E i), tel T E (bs T E (i + 1)), [])])).length ≤ i + 2
          rw [fl_app]
          show (fl ls ++ ([] ++ [])).length ≤ i + 2
          rw [List.append_nil, List.append_nil]
          omega
    · rw [if_neg c2]
      obtain ⟨u, b1, b2, b3⟩ := cc_ref (d := d + 22) (L := L) (xs := xs) (O := O) (c := c) h2
      refine ⟨u, ?_, b2, FLL_of (FL_trans F2 b3)⟩
      simp (disch := first | omega | exact q_b_01 _) only [↓reduceIte, q_bk0, q_bk1, q_bk2, q_sg_b, q_b_0, q_b_n0, q_b_1, q_b_n1, q_b_T, q_b_F, q_sg_g, q_sg_sg, q_sg_xs, q_sg_id, q_gu_ne, q_gu_eq, q_g_fne, q_g_cpe, q_w_f, q_v_f, q_u_f, q_fn_f, q_cp_f, q_sg_pg, q_sg_hc, q_lt_t, q_lt_f, q_le_t, q_le_f, q_eq_t, q_eq_f, ne_eq, eq_self, Bool.false_eq_true, Bool.true_eq_false, not_true_eq_false, not_false_eq_true, true_and, and_true, false_and, and_false, true_or, or_true, false_or, or_false, if_true, if_false, Int.reduceAdd, Int.reduceMul, Int.reduceSub, Int.reduceNeg, w1, q_bt c1, ct, cs, w2, q_bf c2, b1, R_78_0, R_78_10, R_78_13, R_78_20, R_78_21, R_78_28, R_78_36, R_78_47, R_78_50, R_78_57, R_78_58, R_78_65, R_78_73, R_78_82, R_78_85, R_78_92, R_78_97, R_78_100, R_78_102, R_78_111, C_78_7, C_78_17, C_78_25, C_78_33, C_78_44, C_78_54, C_78_62, C_78_70, C_78_79, C_78_89, C_78_94, C_78_108]
  · rw [if_neg c1]
    obtain ⟨u, b1, b2, b3⟩ := cc_ref (d := d + 22) (L := L) (xs := xs) (O := O) (c := c) h
    refine ⟨u, ?_, b2, FLL_of b3⟩
    simp (disch := first | omega | exact q_b_01 _) only [↓reduceIte, q_bk0, q_bk1, q_bk2, q_sg_b, q_b_0, q_b_n0, q_b_1, q_b_n1, q_b_T, q_b_F, q_sg_g, q_sg_sg, q_sg_xs, q_sg_id, q_gu_ne, q_gu_eq, q_g_fne, q_g_cpe, q_w_f, q_v_f, q_u_f, q_fn_f, q_cp_f, q_sg_pg, q_sg_hc, q_lt_t, q_lt_f, q_le_t, q_le_f, q_eq_t, q_eq_f, ne_eq, eq_self, Bool.false_eq_true, Bool.true_eq_false, not_true_eq_false, not_false_eq_true, true_and, and_true, false_and, and_false, true_or, or_true, false_or, or_false, if_true, if_false, Int.reduceAdd, Int.reduceMul, Int.reduceSub, Int.reduceNeg, w1, q_bf c1, b1, R_78_0, R_78_10, R_78_13, R_78_20, R_78_21, R_78_28, R_78_36, R_78_47, R_78_50, R_78_57, R_78_58, R_78_65, R_78_73, R_78_82, R_78_85, R_78_92, R_78_97, R_78_100, R_78_102, R_78_111, C_78_7, C_78_17, C_78_25, C_78_33, C_78_44, C_78_54, C_78_62, C_78_70, C_78_79, C_78_89, C_78_94, C_78_108]
end CLL
