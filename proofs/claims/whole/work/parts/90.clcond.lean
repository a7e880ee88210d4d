/-! THE CLASS: conditions of a law -/
section CLC
variable {L : Nat} {xs : Nat → Int32} {O : Nat → Int64} {c : Bool × Nat × Nat} {T : Int → Int} {E : Int} {C : Nat}
def CAt (T : Int → Int) (E : Int) (C L : Nat) (xs : Nat → Int32) (O : Nat → Int64) (c : Bool × Nat × Nat) (x : Int) (a : Nat → PR) (D : Nat) : Prop := ∀ (i : Nat) (l : List Int) (s : Nat → Int → Int32), 1 ≤ i → CL T E C i l s → l.length ≤ i → CSp T E C i s l (a i) (fun v t => EV (D) 80 0 [.ref 67, .int (q_I (x)), .null] [] (q_h L xs s O c) = some (.inl (some (.int (q_I (v)))), q_h L xs (t) O c))
/-- a chain of and, behind an atom -/
theorem cc_andL {x : Int} {a : Nat → PR} {D : Nat} (hA : CAt T E C L xs O c x a D) : ∀ (f : Nat) (j y z : Int) (i0 i : Nat) (l0 B : List Int) (s : Nat → Int → Int32), C < i + f → 0 ≤ j → j < i → CL T E C i (l0 ++ B) s → l0.length ≤ i0 → B.length + i0 ≤ i → match pE T E a f i B with
    | .inl e => ∃ t, EV (D + 1) 79 39 [.ref 67, .int (q_I (x)), .int (q_I (y)), .int (q_I (z)), .int (q_I (j))] [] (q_h L xs s O c) = some (.inl (some (.int (q_I (0)))), q_h L xs (t) O c) ∧ q_g t 2 6 = e ∧ FL s t
    | .inr p => ∃ t j2, EV (D + 1) 79 39 [.ref 67, .int (q_I (x)), .int (q_I (y)), .int (q_I (z)), .int (q_I (j))] [] (q_h L xs s O c) = EV (D + 1) 79 54 [.ref 67, .int (q_I (x)), .int (q_I (0)), .int (q_I (z)), .int (q_I (j2))] [] (q_h L xs (t) O c) ∧ CL T E C p.1 (l0 ++ p.2) t ∧ p.2.length + i0 ≤ p.1 ∧ 0 ≤ j2 ∧ j2 < p.1 ∧ q_g t 2 6 = q_g s 2 6 ∧ q_g t 55 0 = q_g s 55 0 ∧ FL s t
  | 0, j, y, z, i0, i, l0, B, s, hf, j0, j1, h, hl0, hl => by
    have := h.2.2.1
    omega
  | f + 1, j, y, z, i0, i, l0, B, s, hf, j0, j1, h, hl0, hl => by
    have hC := h.1.1
    have hi := h.2.2.1
    have hll : (l0 ++ B).length = l0.length + B.length := List.length_append
    have is := cc_is (d := D) (L := L) (xs := xs) (O := O) (c := c) (th := 1) (to := 7) h.1 h.2.1 hi (by omega) (by omega) (by omega) (by omega)
    unfold pE
    by_cases c1 : tk T E i 1 7
    · rw [if_pos c1]
      have iC := CL_lt h (by have := c1.1; omega)
      have h2 := CL_step h iC
      have cs := cc_step (d := D) (L := L) (xs := xs) (O := O) (c := c) h.1 h.2.1 iC
      have F2 : FL s (q_u s 2 5 ((i + 1 : Nat) : Int)) := FL_u FL_refl (by omega)
      have k := hA (i + 1) (l0 ++ B) _ (by omega) h2 (by omega)
      have st : EV (D + 1) 79 39 [.ref 67, .int (q_I (x)), .int (q_I (y)), .int (q_I (z)), .int (q_I (j))] [] (q_h L xs s O c) = EV (D + 1) 79 17 [.ref 67, .int (q_I (x)), .int (q_I (1)), .int (q_I (z)), .int (q_I (j + 1))] [.int (q_I (x)), .ref 67] (q_h L xs (q_u s 2 5 ((i + 1 : Nat) : Int)) O c) := by
        simp (disch := first | omega | exact q_b_01 _) only [↓reduceIte, q_bk0, q_bk1, q_bk2, q_sg_b, q_b_0, q_b_n0, q_b_1, q_b_n1, q_b_T, q_b_F, q_sg_g, q_sg_sg, q_sg_xs, q_sg_id, q_gu_ne, q_gu_eq, q_g_fne, q_g_cpe, q_w_f, q_v_f, q_u_f, q_fn_f, q_cp_f, q_sg_pg, q_sg_hc, q_lt_t, q_lt_f, q_le_t, q_le_f, q_eq_t, q_eq_f, ne_eq, eq_self, Bool.false_eq_true, Bool.true_eq_false, not_true_eq_false, not_false_eq_true, true_and, and_true, false_and, and_false, true_or, or_true, false_or, or_false, if_true, if_false, Int.reduceAdd, Int.reduceMul, Int.reduceSub, Int.reduceNeg, is, q_bt c1, cs, R_79_0, R_79_7, R_79_15, R_79_20, R_79_23, R_79_25, R_79_29, R_79_39, R_79_49, R_79_54, R_79_58, R_79_68, R_79_78, R_79_83, R_79_85, R_79_92, R_79_98, R_79_105, C_79_36, C_79_46, C_79_65, C_79_75, C_79_89, C_79_102]
      cases ha : a (i + 1) with
      | inl e =>
        rw [ha] at k
        obtain ⟨t, a1, a2, a3⟩ := k
        refine ⟨t, ?_, a2, FL_trans F2 a3⟩
        rw [st]
        simp (disch := first | omega | exact q_b_01 _) only [↓reduceIte, q_bk0, q_bk1, q_bk2, q_sg_b, q_b_0, q_b_n0, q_b_1, q_b_n1, q_b_T, q_b_F, q_sg_g, q_sg_sg, q_sg_xs, q_sg_id, q_gu_ne, q_gu_eq, q_g_fne, q_g_cpe, q_w_f, q_v_f, q_u_f, q_fn_f, q_cp_f, q_sg_pg, q_sg_hc, q_lt_t, q_lt_f, q_le_t, q_le_f, q_eq_t, q_eq_f, ne_eq, eq_self, Bool.false_eq_true, Bool.true_eq_false, not_true_eq_false, not_false_eq_true, true_and, and_true, false_and, and_false, true_or, or_true, false_or, or_false, if_true, if_false, Int.reduceAdd, Int.reduceMul, Int.reduceSub, Int.reduceNeg, a1, R_79_0, R_79_7, R_79_15, R_79_20, R_79_23, R_79_25, R_79_29, R_79_39, R_79_49, R_79_54, R_79_58, R_79_68, R_79_78, R_79_83, R_79_85, R_79_92, R_79_98, R_79_105, C_79_17, C_79_36, C_79_46, C_79_65, C_79_75, C_79_89, C_79_102]
      | inr p =>
        rw [ha] at k
        obtain ⟨i', q⟩ := p
        obtain ⟨t, a1, a2, a3, a4, a5, a6⟩ := k
        have a3' : q.length + (i + 1) ≤ i' := a3
        have a2' : CL T E C i' ((l0 ++ B) ++ q) t := a2
        have hi' := a2'.2.2.1
        have el : ((l0 ++ B) ++ q).length = l0.length + B.length + q.length := by rw [List.length_append, hll]
        obtain ⟨w, g1, g2, g3, g4, g5⟩ := cc_addCode (d := D) (L := L) (xs := xs) (O := O) (c := c) (x := 4003) a2' (by omega) (by omega) (by omega)
        rw [show ((l0 ++ B) ++ q) ++ [4003] = l0 ++ (B ++ q ++ [4003]) by simp] at g2
        have eb : (B ++ q ++ [4003]).length = B.length + q.length + 1 := by simp only [List.length_append, List.length_cons, List.length_nil] <;> omega
        have st2 : EV (D + 1) 79 39 [.ref 67, .int (q_I (x)), .int (q_I (y)), .int (q_I (z)), .int (q_I (j))] [] (q_h L xs s O c) = EV (D + 1) 79 39 [.ref 67, .int (q_I (x)), .int (q_I (1)), .int (q_I (z)), .int (q_I (j + 1))] [] (q_h L xs (w) O c) := by
          rw [st]
          simp (disch := first | omega | exact q_b_01 _) only [↓reduceIte, q_bk0, q_bk1, q_bk2, q_sg_b, q_b_0, q_b_n0, q_b_1, q_b_n1, q_b_T, q_b_F, q_sg_g, q_sg_sg, q_sg_xs, q_sg_id, q_gu_ne, q_gu_eq, q_g_fne, q_g_cpe, q_w_f, q_v_f, q_u_f, q_fn_f, q_cp_f, q_sg_pg, q_sg_hc, q_lt_t, q_lt_f, q_le_t, q_le_f, q_eq_t, q_eq_f, ne_eq, eq_self, Bool.false_eq_true, Bool.true_eq_false, not_true_eq_false, not_false_eq_true, true_and, and_true, false_and, and_false, true_or, or_true, false_or, or_false, if_true, if_false, Int.reduceAdd, Int.reduceMul, Int.reduceSub, Int.reduceNeg, a1, g1, R_79_0, R_79_7, R_79_15, R_79_20, R_79_23, R_79_25, R_79_29, R_79_49, R_79_54, R_79_58, R_79_68, R_79_78, R_79_83, R_79_85, R_79_92, R_79_98, R_79_105, C_79_17, C_79_36, C_79_46, C_79_65, C_79_75, C_79_89, C_79_102]
        have ih := cc_andL hA f (j + 1) 1 z i0 i' l0 (B ++ q ++ [4003]) w (by omega) (by omega) (by omega) g2 hl0 (by omega)
        rw [st2]
        have F : FL s w := FL_trans F2 (FL_trans a6 g5)
        show (match pE T E a f i' (B ++ q ++ [4003]) with
          | .inl e => _
          | .inr p => _)
        cases hq : pE T E a f i' (B ++ q ++ [4003]) with
        | inl e =>
          rw [hq] at ih
          obtain ⟨t4, r1, r2, r3⟩ := ih
          exact ⟨t4, r1, r2, FL_trans F r3⟩
        | inr p =>
          rw [hq] at ih
          obtain ⟨t4, j2, r1, r2, r3, r4, r5, r6, r7, r8⟩ := ih
          exact ⟨t4, j2, r1, r2, r3, r4, r5, by rw [r6, g3, a4, q_gu_ne (by omega)], by rw [r7, g4, a5, q_gu_ne (by omega)], FL_trans F r8⟩
    · rw [if_neg c1]
      refine ⟨s, j, ?_, h, hl, j0, j1, rfl, rfl, FL_refl⟩
      simp (disch := first | omega | exact q_b_01 _) only [↓reduceIte, q_bk0, q_bk1, q_bk2, q_sg_b, q_b_0, q_b_n0, q_b_1, q_b_n1, q_b_T, q_b_F, q_sg_g, q_sg_sg, q_sg_xs, q_sg_id, q_gu_ne, q_gu_eq, q_g_fne, q_g_cpe, q_w_f, q_v_f, q_u_f, q_fn_f, q_cp_f, q_sg_pg, q_sg_hc, q_lt_t, q_lt_f, q_le_t, q_le_f, q_eq_t, q_eq_f, ne_eq, eq_self, Bool.false_eq_true, Bool.true_eq_false, not_true_eq_false, not_false_eq_true, true_and, and_true, false_and, and_false, true_or, or_true, false_or, or_false, if_true, if_false, Int.reduceAdd, Int.reduceMul, Int.reduceSub, Int.reduceNeg, is, q_bf c1, R_79_0, R_79_7, R_79_15, R_79_20, R_79_23, R_79_25, R_79_29, R_79_39, R_79_49, R_79_58, R_79_68, R_79_78, R_79_83, R_79_85, R_79_92, R_79_98, R_79_105, C_79_17, C_79_36, C_79_46, C_79_65, C_79_75, C_79_89, C_79_102]
/-- the first atom and its chain of and, from the loop's head -/
theorem cc_andA {x : Int} {a : Nat → PR} {D : Nat} (hA : CAt T E C L xs O c x a D) {j z : Int} {i : Nat} {l : List Int} {s : Nat → Int → Int32} (i0 : 1 ≤ i) (j0 : 0 ≤ j) (j1 : j < i) (h : CL T E C i l s) (hl : l.length ≤ i) : match pb (a i) (fun i' q => pE T E a 400 i' q) with
    | .inl e => ∃ t, EV (D + 1) 79 7 [.ref 67, .int (q_I (x)), .int (q_I (0)), .int (q_I (z)), .int (q_I (j))] [] (q_h L xs s O c) = some (.inl (some (.int (q_I (0)))), q_h L xs (t) O c) ∧ q_g t 2 6 = e ∧ FL s t
    | .inr p => ∃ t j2, EV (D + 1) 79 7 [.ref 67, .int (q_I (x)), .int (q_I (0)), .int (q_I (z)), .int (q_I (j))] [] (q_h L xs s O c) = EV (D + 1) 79 54 [.ref 67, .int (q_I (x)), .int (q_I (0)), .int (q_I (z)), .int (q_I (j2))] [] (q_h L xs (t) O c) ∧ CL T E C p.1 (l ++ p.2) t ∧ p.2.length + i ≤ p.1 ∧ 0 ≤ j2 ∧ j2 < p.1 ∧ q_g t 2 6 = q_g s 2 6 ∧ q_g t 55 0 = q_g s 55 0 ∧ FL s t := by
  have hC := h.1.1
  have hi := h.2.2.1
  have k := hA i l s i0 h hl
  cases ha : a i with
  | inl e =>
    rw [ha] at k
    obtain ⟨t, a1, a2, a3⟩ := k
    refine ⟨t, ?_, a2, a3⟩
    rw [R_79_7]
    simp (disch := first | omega | exact q_b_01 _) only [↓reduceIte, q_bk0, q_bk1, q_bk2, q_sg_b, q_b_0, q_b_n0, q_b_1, q_b_n1, q_b_T, q_b_F, q_sg_g, q_sg_sg, q_sg_xs, q_sg_id, q_gu_ne, q_gu_eq, q_g_fne, q_g_cpe, q_w_f, q_v_f, q_u_f, q_fn_f, q_cp_f, q_sg_pg, q_sg_hc, q_lt_t, q_lt_f, q_le_t, q_le_f, q_eq_t, q_eq_f, ne_eq, eq_self, Bool.false_eq_true, Bool.true_eq_false, not_true_eq_false, not_false_eq_true, true_and, and_true, false_and, and_false, true_or, or_true, false_or, or_false, if_true, if_false, Int.reduceAdd, Int.reduceMul, Int.reduceSub, Int.reduceNeg, a1, R_79_0, R_79_15, R_79_20, R_79_23, R_79_25, R_79_29, R_79_39, R_79_49, R_79_54, R_79_58, R_79_68, R_79_78, R_79_83, R_79_85, R_79_92, R_79_98, R_79_105, C_79_17, C_79_36, C_79_46, C_79_65, C_79_75, C_79_89, C_79_102]
  | inr p =>
    rw [ha] at k
    obtain ⟨i', q⟩ := p
    obtain ⟨t, a1, a2, a3, a4, a5, a6⟩ := k
    have a3' : q.length + i ≤ i' := a3
    have a2' : CL T E C i' (l ++ q) t := a2
    have hi' := a2'.2.2.1
    have st : EV (D + 1) 79 7 [.ref 67, .int (q_I (x)), .int (q_I (0)), .int (q_I (z)), .int (q_I (j))] [] (q_h L xs s O c) = EV (D + 1) 79 39 [.ref 67, .int (q_I (x)), .int (q_I (0)), .int (q_I (z)), .int (q_I (j))] [] (q_h L xs (t) O c) := by
      rw [R_79_7]
      simp (disch := first | omega | exact q_b_01 _) only [↓reduceIte, q_bk0, q_bk1, q_bk2, q_sg_b, q_b_0, q_b_n0, q_b_1, q_b_n1, q_b_T, q_b_F, q_sg_g, q_sg_sg, q_sg_xs, q_sg_id, q_gu_ne, q_gu_eq, q_g_fne, q_g_cpe, q_w_f, q_v_f, q_u_f, q_fn_f, q_cp_f, q_sg_pg, q_sg_hc, q_lt_t, q_lt_f, q_le_t, q_le_f, q_eq_t, q_eq_f, ne_eq, eq_self, Bool.false_eq_true, Bool.true_eq_false, not_true_eq_false, not_false_eq_true, true_and, and_true, false_and, and_false, true_or, or_true, false_or, or_false, if_true, if_false, Int.reduceAdd, Int.reduceMul, Int.reduceSub, Int.reduceNeg, a1, R_79_0, R_79_15, R_79_20, R_79_23, R_79_25, R_79_29, R_79_49, R_79_54, R_79_58, R_79_68, R_79_78, R_79_83, R_79_85, R_79_92, R_79_98, R_79_105, C_79_17, C_79_36, C_79_46, C_79_65, C_79_75, C_79_89, C_79_102]
    rw [st]
    have ih := cc_andL hA 400 j 0 z i i' l q t (by omega) (by omega) (by omega) a2' hl (by omega)
    show (match pE T E a 400 i' q with
      | .inl e => _
      | .inr p => _)
    cases hq : pE T E a 400 i' q with
    | inl e =>
      rw [hq] at ih
      obtain ⟨t4, r1, r2, r3⟩ := ih
      exact ⟨t4, r1, r2, FL_trans a6 r3⟩
    | inr p =>
      rw [hq] at ih
      obtain ⟨t4, j2, r1, r2, r3, r4, r5, r6, r7, r8⟩ := ih
      exact ⟨t4, j2, r1, r2, r3, r4, r5, by rw [r6, a4], by rw [r7, a5], FL_trans a6 r8⟩
/-- a chain of or, behind a chain of and -/
theorem cc_orL {x : Int} {a : Nat → PR} {D : Nat} (hA : CAt T E C L xs O c x a D) : ∀ (f : Nat) (j z : Int) (i0 i : Nat) (l0 A : List Int) (s : Nat → Int → Int32), C < i + f → 0 ≤ j → j < i → CL T E C i (l0 ++ A) s → l0.length ≤ i0 → A.length + i0 ≤ i → CSp T E C i0 s l0 (pO T E a f i A) (fun v t => EV (D + 1) 79 68 [.ref 67, .int (q_I (x)), .int (q_I (0)), .int (q_I (z)), .int (q_I (j))] [] (q_h L xs s O c) = some (.inl (some (.int (q_I (v)))), q_h L xs (t) O c))
  | 0, j, z, i0, i, l0, A, s, hf, j0, j1, h, hl0, hl => by
    have := h.2.2.1
    omega
  | f + 1, j, z, i0, i, l0, A, s, hf, j0, j1, h, hl0, hl => by
    have hC := h.1.1
    have hi := h.2.2.1
    have hll : (l0 ++ A).length = l0.length + A.length := List.length_append
    have is := cc_is (d := D) (L := L) (xs := xs) (O := O) (c := c) (th := 1) (to := 6) h.1 h.2.1 hi (by omega) (by omega) (by omega) (by omega)
    unfold pO
    by_cases c1 : tk T E i 1 6
    · rw [if_pos c1]
      have iC := CL_lt h (by have := c1.1; omega)
      have h2 := CL_step h iC
      have cs := cc_step (d := D) (L := L) (xs := xs) (O := O) (c := c) h.1 h.2.1 iC
      have F2 : FL s (q_u s 2 5 ((i + 1 : Nat) : Int)) := FL_u FL_refl (by omega)
      have k := cc_andA hA (j := j + 1) (z := 1) (show 1 ≤ i + 1 by omega) (by omega) (by omega) h2 (by omega)
      have st : EV (D + 1) 79 68 [.ref 67, .int (q_I (x)), .int (q_I (0)), .int (q_I (z)), .int (q_I (j))] [] (q_h L xs s O c) = EV (D + 1) 79 7 [.ref 67, .int (q_I (x)), .int (q_I (0)), .int (q_I (1)), .int (q_I (j + 1))] [] (q_h L xs (q_u s 2 5 ((i + 1 : Nat) : Int)) O c) := by
        simp (disch := first | omega | exact q_b_01 _) only [↓reduceIte, q_bk0, q_bk1, q_bk2, q_sg_b, q_b_0, q_b_n0, q_b_1, q_b_n1, q_b_T, q_b_F, q_sg_g, q_sg_sg, q_sg_xs, q_sg_id, q_gu_ne, q_gu_eq, q_g_fne, q_g_cpe, q_w_f, q_v_f, q_u_f, q_fn_f, q_cp_f, q_sg_pg, q_sg_hc, q_lt_t, q_lt_f, q_le_t, q_le_f, q_eq_t, q_eq_f, ne_eq, eq_self, Bool.false_eq_true, Bool.true_eq_false, not_true_eq_false, not_false_eq_true, true_and, and_true, false_and, and_false, true_or, or_true, false_or, or_false, if_true, if_false, Int.reduceAdd, Int.reduceMul, Int.reduceSub, Int.reduceNeg, is, q_bt c1, cs, R_79_0, R_79_15, R_79_20, R_79_23, R_79_25, R_79_29, R_79_39, R_79_49, R_79_54, R_79_58, R_79_68, R_79_78, R_79_83, R_79_85, R_79_92, R_79_98, R_79_105, C_79_17, C_79_36, C_79_46, C_79_65, C_79_75, C_79_89, C_79_102]
      rw [st]
      cases ha : pb (a (i + 1)) (fun i' q => pE T E a 400 i' q) with
      | inl e =>
        rw [ha] at k
        obtain ⟨t, a1, a2, a3⟩ := k
        exact ⟨t, a1, a2, FL_trans F2 a3⟩
      | inr p =>
        rw [ha] at k
        obtain ⟨i', q⟩ := p
        obtain ⟨t, j2, a1, a2, a3, a4, a5, a6, a7, a8⟩ := k
        have a3' : q.length + (i + 1) ≤ i' := a3
        have a5' : j2 < i' := a5
        have a2' : CL T E C i' ((l0 ++ A) ++ q) t := a2
        have hi' := a2'.2.2.1
        have el : ((l0 ++ A) ++ q).length = l0.length + A.length + q.length := by rw [List.length_append, hll]
        obtain ⟨w, g1, g2, g3, g4, g5⟩ := cc_addCode (d := D) (L := L) (xs := xs) (O := O) (c := c) (x := 4004) a2' (by omega) (by omega) (by omega)
        rw [show ((l0 ++ A) ++ q) ++ [4004] = l0 ++ (A ++ q ++ [4004]) by simp] at g2
        have eb : (A ++ q ++ [4004]).length = A.length + q.length + 1 := by simp only [List.length_append, List.length_cons, List.length_nil] <;> omega
        have st2 : EV (D + 1) 79 54 [.ref 67, .int (q_I (x)), .int (q_I (0)), .int (q_I (1)), .int (q_I (j2))] [] (q_h L xs (t) O c) = EV (D + 1) 79 68 [.ref 67, .int (q_I (x)), .int (q_I (0)), .int (q_I (1)), .int (q_I (j2))] [] (q_h L xs (w) O c) := by
          simp (disch := first | omega | exact q_b_01 _) only [↓reduceIte, q_bk0, q_bk1, q_bk2, q_sg_b, q_b_0, q_b_n0, q_b_1, q_b_n1, q_b_T, q_b_F, q_sg_g, q_sg_sg, q_sg_xs, q_sg_id, q_gu_ne, q_gu_eq, q_g_fne, q_g_cpe, q_w_f, q_v_f, q_u_f, q_fn_f, q_cp_f, q_sg_pg, q_sg_hc, q_lt_t, q_lt_f, q_le_t, q_le_f, q_eq_t, q_eq_f, ne_eq, eq_self, Bool.false_eq_true, Bool.true_eq_false, not_true_eq_false, not_false_eq_true, true_and, and_true, false_and, and_false, true_or, or_true, false_or, or_false, if_true, if_false, Int.reduceAdd, Int.reduceMul, Int.reduceSub, Int.reduceNeg, g1, R_79_0, R_79_7, R_79_15, R_79_20, R_79_23, R_79_25, R_79_29, R_79_39, R_79_49, R_79_54, R_79_58, R_79_78, R_79_83, R_79_85, R_79_92, R_79_98, R_79_105, C_79_17, C_79_36, C_79_46, C_79_65, C_79_75, C_79_89, C_79_102]
        have ih := cc_orL hA f j2 1 i0 i' l0 (A ++ q ++ [4004]) w (by omega) (by omega) (by omega) g2 hl0 (by omega)
        rw [a1, st2]
        have F : FL s w := FL_trans F2 (FL_trans a8 g5)
        show CSp T E C i0 s l0 (pO T E a f i' (A ++ q ++ [4004])) _
        cases hq : pO T E a f i' (A ++ q ++ [4004]) with
        | inl e =>
          rw [hq] at ih
          obtain ⟨t4, r1, r2, r3⟩ := ih
          exact ⟨t4, r1, r2, FL_trans F r3⟩
        | inr p =>
          rw [hq] at ih
          obtain ⟨t4, r1, r2, r3, r4, r5, r6⟩ := ih
          exact ⟨t4, r1, r2, r3, by rw [r4, g3, a6, q_gu_ne (by omega)], by rw [r5, g4, a7, q_gu_ne (by omega)], FL_trans F r6⟩
    · rw [if_neg c1]
      refine ⟨s, ?_, h, hl, rfl, rfl, FL_refl⟩
      simp (disch := first | omega | exact q_b_01 _) only [↓reduceIte, q_bk0, q_bk1, q_bk2, q_sg_b, q_b_0, q_b_n0, q_b_1, q_b_n1, q_b_T, q_b_F, q_sg_g, q_sg_sg, q_sg_xs, q_sg_id, q_gu_ne, q_gu_eq, q_g_fne, q_g_cpe, q_w_f, q_v_f, q_u_f, q_fn_f, q_cp_f, q_sg_pg, q_sg_hc, q_lt_t, q_lt_f, q_le_t, q_le_f, q_eq_t, q_eq_f, ne_eq, eq_self, Bool.false_eq_true, Bool.true_eq_false, not_true_eq_false, not_false_eq_true, true_and, and_true, false_and, and_false, true_or, or_true, false_or, or_false, if_true, if_false, Int.reduceAdd, Int.reduceMul, Int.reduceSub, Int.reduceNeg, is, q_bf c1, R_79_0, R_79_7, R_79_15, R_79_20, R_79_23, R_79_25, R_79_29, R_79_39, R_79_49, R_79_54, R_79_58, R_79_68, R_79_78, R_79_83, R_79_85, R_79_92, R_79_98, R_79_105, C_79_17, C_79_36, C_79_46, C_79_65, C_79_75, C_79_89, C_79_102]
theorem cc_cond {x : Int} {a : Nat → PR} {D : Nat} (hA : CAt T E C L xs O c x a D) {i : Nat} {l : List Int} {s : Nat → Int → Int32} (i0 : 1 ≤ i) (h : CL T E C i l s) (hl : l.length ≤ i) : CSp T E C i s l (pC T E a i) (fun v t => EV (D + 1) 79 0 [.ref 67, .int (q_I (x)), .null, .null, .null] [] (q_h L xs s O c) = some (.inl (some (.int (q_I (v)))), q_h L xs (t) O c)) := by
  have hC := h.1.1
  have hi := h.2.2.1
  have st : EV (D + 1) 79 0 [.ref 67, .int (q_I (x)), .null, .null, .null] [] (q_h L xs s O c) = EV (D + 1) 79 7 [.ref 67, .int (q_I (x)), .int (q_I (0)), .int (q_I (0)), .int (q_I (0))] [] (q_h L xs s O c) := by
    simp (disch := first | omega | exact q_b_01 _) only [↓reduceIte, q_bk0, q_bk1, q_bk2, q_sg_b, q_b_0, q_b_n0, q_b_1, q_b_n1, q_b_T, q_b_F, q_sg_g, q_sg_sg, q_sg_xs, q_sg_id, q_gu_ne, q_gu_eq, q_g_fne, q_g_cpe, q_w_f, q_v_f, q_u_f, q_fn_f, q_cp_f, q_sg_pg, q_sg_hc, q_lt_t, q_lt_f, q_le_t, q_le_f, q_eq_t, q_eq_f, ne_eq, eq_self, Bool.false_eq_true, Bool.true_eq_false, not_true_eq_false, not_false_eq_true, true_and, and_true, false_and, and_false, true_or, or_true, false_or, or_false, if_true, if_false, Int.reduceAdd, Int.reduceMul, Int.reduceSub, Int.reduceNeg, R_79_0, R_79_15, R_79_20, R_79_23, R_79_25, R_79_29, R_79_39, R_79_49, R_79_54, R_79_58, R_79_68, R_79_78, R_79_83, R_79_85, R_79_92, R_79_98, R_79_105, C_79_17, C_79_36, C_79_46, C_79_65, C_79_75, C_79_89, C_79_102]
  rw [st]
  have k := cc_andA hA (j := 0) (z := 0) i0 (by omega) (by omega) h hl
  unfold pC
  cases ha : pb (a i) (fun i' q => pE T E a 400 i' q) with
  | inl e =>
    rw [ha] at k
    obtain ⟨t, a1, a2, a3⟩ := k
    exact ⟨t, a1, a2, a3⟩
  | inr p =>
    rw [ha] at k
    obtain ⟨i', q⟩ := p
    obtain ⟨t, j2, a1, a2, a3, a4, a5, a6, a7, a8⟩ := k
    have a3' : q.length + i ≤ i' := a3
    have a5' : j2 < i' := a5
    have a2' : CL T E C i' (l ++ q) t := a2
    have hi' := a2'.2.2.1
    have st2 : EV (D + 1) 79 54 [.ref 67, .int (q_I (x)), .int (q_I (0)), .int (q_I (0)), .int (q_I (j2))] [] (q_h L xs (t) O c) = EV (D + 1) 79 68 [.ref 67, .int (q_I (x)), .int (q_I (0)), .int (q_I (0)), .int (q_I (j2))] [] (q_h L xs (t) O c) := by
      simp (disch := first | omega | exact q_b_01 _) only [↓reduceIte, q_bk0, q_bk1, q_bk2, q_sg_b, q_b_0, q_b_n0, q_b_1, q_b_n1, q_b_T, q_b_F, q_sg_g, q_sg_sg, q_sg_xs, q_sg_id, q_gu_ne, q_gu_eq, q_g_fne, q_g_cpe, q_w_f, q_v_f, q_u_f, q_fn_f, q_cp_f, q_sg_pg, q_sg_hc, q_lt_t, q_lt_f, q_le_t, q_le_f, q_eq_t, q_eq_f, ne_eq, eq_self, Bool.false_eq_true, Bool.true_eq_false, not_true_eq_false, not_false_eq_true, true_and, and_true, false_and, and_false, true_or, or_true, false_or, or_false, if_true, if_false, Int.reduceAdd, Int.reduceMul, Int.reduceSub, Int.reduceNeg, R_79_0, R_79_7, R_79_15, R_79_20, R_79_23, R_79_25, R_79_29, R_79_39, R_79_49, R_79_54, R_79_58, R_79_78, R_79_83, R_79_85, R_79_92, R_79_98, R_79_105, C_79_17, C_79_36, C_79_46, C_79_65, C_79_75, C_79_89, C_79_102]
    have ih := cc_orL hA 400 j2 0 i i' l q t (by omega) (by omega) (by omega) a2' hl (by omega)
    rw [a1, st2]
    show CSp T E C i s l (pO T E a 400 i' q) _
    cases hq : pO T E a 400 i' q with
    | inl e =>
      rw [hq] at ih
      obtain ⟨t4, r1, r2, r3⟩ := ih
      exact ⟨t4, r1, r2, FL_trans a8 r3⟩
    | inr p =>
      rw [hq] at ih
      obtain ⟨t4, r1, r2, r3, r4, r5, r6⟩ := ih
      exact ⟨t4, r1, r2, r3, by rw [r4, a6], by rw [r5, a7], FL_trans a8 r6⟩
theorem cc_atom (hr : ∀ j, 0 ≤ j → j < E → 0 ≤ T j ∧ T j ≤ 255) : ∀ (r : Nat) (D : Nat), r ≤ 6 → 3 * r + 3 ≤ D → CAt T E C L xs O c (6 - (r : Int)) (pAtom T E r) D
  | 0, D, r6, hD => fun i l s i0 h hl => by
    obtain ⟨d, rfl⟩ := Nat.exists_eq_add_of_le' (show 3 ≤ D by omega)
    have hi := h.2.2.1
    have ia := cc_is (d := d + 2) (L := L) (xs := xs) (O := O) (c := c) (th := 1) (to := 8) h.1 h.2.1 hi (by omega) (by omega) (by omega) (by omega)
    have ib := cc_is (d := d + 2) (L := L) (xs := xs) (O := O) (c := c) (th := 3) (to := 40) h.1 h.2.1 hi (by omega) (by omega) (by omega) (by omega)
    unfold pAtom
    by_cases c1 : tk T E i 1 8
    · rw [if_pos c1]
      obtain ⟨t, a1, a2, a3⟩ := cc_ref (d := d + 2) (L := L) (xs := xs) (O := O) (c := c) h
      refine ⟨t, ?_, a2, a3⟩
      simp (disch := first | omega | exact q_b_01 _) only [↓reduceIte, q_bk0, q_bk1, q_bk2, q_sg_b, q_b_0, q_b_n0, q_b_1, q_b_n1, q_b_T, q_b_F, q_sg_g, q_sg_sg, q_sg_xs, q_sg_id, q_gu_ne, q_gu_eq, q_g_fne, q_g_cpe, q_w_f, q_v_f, q_u_f, q_fn_f, q_cp_f, q_sg_pg, q_sg_hc, q_lt_t, q_lt_f, q_le_t, q_le_f, q_eq_t, q_eq_f, ne_eq, eq_self, Bool.false_eq_true, Bool.true_eq_false, not_true_eq_false, not_false_eq_true, true_and, and_true, false_and, and_false, true_or, or_true, false_or, or_false, if_true, if_false, Int.reduceAdd, Int.reduceMul, Int.reduceSub, Int.reduceNeg, ia, q_bt c1, a1, R_80_0, R_80_10, R_80_15, R_80_25, R_80_28, R_80_34, R_80_41, R_80_42, R_80_49, R_80_53, R_80_60, R_80_63, R_80_70, R_80_71, R_80_83, R_80_86, R_80_90, R_80_91, R_80_105, R_80_112, R_80_119, C_80_7, C_80_22, C_80_38, C_80_46, C_80_57, C_80_67, C_80_80, C_80_87, C_80_102, C_80_109, C_80_116]
    · rw [if_neg c1]
      by_cases c2 : tk T E i 3 40
      · rw [if_pos c2]
        obtain ⟨t, a1, a2, a3⟩ := cc_ref (d := d + 2) (L := L) (xs := xs) (O := O) (c := c) h
        refine ⟨t, ?_, a2, a3⟩
        simp (disch := first | omega | exact q_b_01 _) only [↓reduceIte, q_bk0, q_bk1, q_bk2, q_sg_b, q_b_0, q_b_n0, q_b_1, q_b_n1, q_b_T, q_b_F, q_sg_g, q_sg_sg, q_sg_xs, q_sg_id, q_gu_ne, q_gu_eq, q_g_fne, q_g_cpe, q_w_f, q_v_f, q_u_f, q_fn_f, q_cp_f, q_sg_pg, q_sg_hc, q_lt_t, q_lt_f, q_le_t, q_le_f, q_eq_t, q_eq_f, ne_eq, eq_self, Bool.false_eq_true, Bool.true_eq_false, not_true_eq_false, not_false_eq_true, true_and, and_true, false_and, and_false, true_or, or_true, false_or, or_false, if_true, if_false, Int.reduceAdd, Int.reduceMul, Int.reduceSub, Int.reduceNeg, ia, ib, q_bf c1, q_bt c2, a1, R_80_0, R_80_10, R_80_15, R_80_25, R_80_28, R_80_34, R_80_41, R_80_42, R_80_49, R_80_53, R_80_60, R_80_63, R_80_70, R_80_71, R_80_83, R_80_86, R_80_90, R_80_91, R_80_105, R_80_112, R_80_119, C_80_7, C_80_22, C_80_38, C_80_46, C_80_57, C_80_67, C_80_80, C_80_87, C_80_102, C_80_109, C_80_116]
      · rw [if_neg c2]
        exact cc_plain hr i0 h hl c1 c2
  | r + 1, D, r6, hD => fun i l s i0 h hl => by
    obtain ⟨d, rfl⟩ := Nat.exists_eq_add_of_le' (show 3 ≤ D by omega)
    have hi := h.2.2.1
    have hC := h.1.1
    have ia := cc_is (d := d + 2) (L := L) (xs := xs) (O := O) (c := c) (th := 1) (to := 8) h.1 h.2.1 hi (by omega) (by omega) (by omega) (by omega)
    have ib := cc_is (d := d + 2) (L := L) (xs := xs) (O := O) (c := c) (th := 3) (to := 40) h.1 h.2.1 hi (by omega) (by omega) (by omega) (by omega)
    have ex : 6 - ((r + 1 : Nat) : Int) + 1 = 6 - (r : Int) := by omega
    have F2 : FL s (q_u s 2 5 ((i + 1 : Nat) : Int)) := FL_u FL_refl (by omega)
    unfold pAtom
    by_cases c1 : tk T E i 1 8
    · rw [if_pos c1]
      have iC := CL_lt h (by have := c1.1; omega)
      have h2 := CL_step h iC
      have cs := cc_step (d := d + 2) (L := L) (xs := xs) (O := O) (c := c) h.1 h.2.1 iC
      have k := cc_atom hr r (d + 1) (by omega) (by omega) (i + 1) l _ (by omega) h2 (by omega)
      cases ha : pAtom T E r (i + 1) with
      | inl e =>
        rw [ha] at k
        obtain ⟨t, a1, a2, a3⟩ := k
        refine ⟨t, ?_, a2, FL_trans F2 a3⟩
        simp (disch := first | omega | exact q_b_01 _) only [↓reduceIte, q_bk0, q_bk1, q_bk2, q_sg_b, q_b_0, q_b_n0, q_b_1, q_b_n1, q_b_T, q_b_F, q_sg_g, q_sg_sg, q_sg_xs, q_sg_id, q_gu_ne, q_gu_eq, q_g_fne, q_g_cpe, q_w_f, q_v_f, q_u_f, q_fn_f, q_cp_f, q_sg_pg, q_sg_hc, q_lt_t, q_lt_f, q_le_t, q_le_f, q_eq_t, q_eq_f, ne_eq, eq_self, Bool.false_eq_true, Bool.true_eq_false, not_true_eq_false, not_false_eq_true, true_and, and_true, false_and, and_false, true_or, or_true, false_or, or_false, if_true, if_false, Int.reduceAdd, Int.reduceMul, Int.reduceSub, Int.reduceNeg, ia, q_bt c1, cs, ex, a1, R_80_0, R_80_10, R_80_15, R_80_25, R_80_28, R_80_34, R_80_41, R_80_42, R_80_49, R_80_53, R_80_60, R_80_63, R_80_70, R_80_71, R_80_83, R_80_86, R_80_90, R_80_91, R_80_105, R_80_112, R_80_119, C_80_7, C_80_22, C_80_38, C_80_46, C_80_57, C_80_67, C_80_80, C_80_87, C_80_102, C_80_109, C_80_116, R_81_0, R_81_5, R_81_8, R_81_10, R_81_20, C_81_2, C_81_17]
      | inr p =>
        rw [ha] at k
        obtain ⟨i', q⟩ := p
        obtain ⟨t, a1, a2, a3, a4, a5, a6⟩ := k
        have a3' : q.length + (i + 1) ≤ i' := a3
        have a2' : CL T E C i' (l ++ q) t := a2
        have hi' := a2'.2.2.1
        have el : (l ++ q).length = l.length + q.length := List.length_append
        obtain ⟨w, g1, g2, g3, g4, g5⟩ := cc_addCode (d := d + 1) (L := L) (xs := xs) (O := O) (c := c) (x := 3000) a2' (by omega) (by omega) (by omega)
        rw [show (l ++ q) ++ [3000] = l ++ (q ++ [3000]) by simp] at g2
        refine ⟨w, ?_, g2, ?_, by rw [g3, a4, q_gu_ne (by omega)], by rw [g4, a5, q_gu_ne (by omega)], FL_trans F2 (FL_trans a6 g5)⟩
        · simp (disch := first | omega | exact q_b_01 _) only [↓reduceIte, q_bk0, q_bk1, q_bk2, q_sg_b, q_b_0, q_b_n0, q_b_1, q_b_n1, q_b_T, q_b_F, q_sg_g, q_sg_sg, q_sg_xs, q_sg_id, q_gu_ne, q_gu_eq, q_g_fne, q_g_cpe, q_w_f, q_v_f, q_u_f, q_fn_f, q_cp_f, q_sg_pg, q_sg_hc, q_lt_t, q_lt_f, q_le_t, q_le_f, q_eq_t, q_eq_f, ne_eq, eq_self, Bool.false_eq_true, Bool.true_eq_false, not_true_eq_false, not_false_eq_true, true_and, and_true, false_and, and_false, true_or, or_true, false_or, or_false, if_true, if_false, Int.reduceAdd, Int.reduceMul, Int.reduceSub, Int.reduceNeg, ia, q_bt c1, cs, ex, a1, g1, R_80_0, R_80_10, R_80_15, R_80_25, R_80_28, R_80_34, R_80_41, R_80_42, R_80_49, R_80_53, R_80_60, R_80_63, R_80_70, R_80_71, R_80_83, R_80_86, R_80_90, R_80_91, R_80_105, R_80_112, R_80_119, C_80_7, C_80_22, C_80_38, C_80_46, C_80_57, C_80_67, C_80_80, C_80_87, C_80_102, C_80_109, C_80_116, R_81_0, R_81_5, R_81_8, R_81_10, R_81_20, C_81_2, C_81_17]
        · show (q ++ [3000]).length + i ≤ i'
          simp only [List.length_append, List.length_cons, List.length_nil]
          omega
    · rw [if_neg c1]
      by_cases c2 : tk T E i 3 40
      · rw [if_pos c2]
        have iC := CL_lt h (by have := c2.1; omega)
        have h2 := CL_step h iC
        have cs := cc_step (d := d + 2) (L := L) (xs := xs) (O := O) (c := c) h.1 h.2.1 iC
        obtain ⟨d', rfl⟩ := Nat.exists_eq_add_of_le' (show 1 ≤ d by omega)
        have k := cc_cond (cc_atom hr r (d' + 1) (by omega) (by omega)) (show 1 ≤ i + 1 by omega) h2 (by omega)
        cases ha : pC T E (pAtom T E r) (i + 1) with
        | inl e =>
          rw [ha] at k
          obtain ⟨t, a1, a2, a3⟩ := k
          refine ⟨t, ?_, a2, FL_trans F2 a3⟩
          simp (disch := first | omega | exact q_b_01 _) only [↓reduceIte, q_bk0, q_bk1, q_bk2, q_sg_b, q_b_0, q_b_n0, q_b_1, q_b_n1, q_b_T, q_b_F, q_sg_g, q_sg_sg, q_sg_xs, q_sg_id, q_gu_ne, q_gu_eq, q_g_fne, q_g_cpe, q_w_f, q_v_f, q_u_f, q_fn_f, q_cp_f, q_sg_pg, q_sg_hc, q_lt_t, q_lt_f, q_le_t, q_le_f, q_eq_t, q_eq_f, ne_eq, eq_self, Bool.false_eq_true, Bool.true_eq_false, not_true_eq_false, not_false_eq_true, true_and, and_true, false_and, and_false, true_or, or_true, false_or, or_false, if_true, if_false, Int.reduceAdd, Int.reduceMul, Int.reduceSub, Int.reduceNeg, ia, ib, q_bf c1, q_bt c2, cs, ex, a1, R_80_0, R_80_10, R_80_15, R_80_25, R_80_28, R_80_34, R_80_41, R_80_42, R_80_49, R_80_53, R_80_60, R_80_63, R_80_70, R_80_71, R_80_83, R_80_86, R_80_90, R_80_91, R_80_105, R_80_112, R_80_119, C_80_7, C_80_22, C_80_38, C_80_46, C_80_57, C_80_67, C_80_80, C_80_87, C_80_102, C_80_109, C_80_116, R_82_0, R_82_5, R_82_8, R_82_10, R_82_20, R_82_23, R_82_30, R_82_31, R_82_38, C_82_2, C_82_17, C_82_27, C_82_35]
        | inr p =>
          rw [ha] at k
          obtain ⟨i', q⟩ := p
          obtain ⟨t, a1, a2, a3, a4, a5, a6⟩ := k
          have a3' : q.length + (i + 1) ≤ i' := a3
          have a2' : CL T E C i' (l ++ q) t := a2
          have hi' := a2'.2.2.1
          have ic := cc_is (d := d' + 2) (L := L) (xs := xs) (O := O) (c := c) (th := 3) (to := 41) a2'.1 a2'.2.1 hi' (by omega) (by omega) (by omega) (by omega)
          show CSp T E C i s l (if tk T E i' 3 41 then Sum.inr (i' + 1, q) else Sum.inl (bs T E i')) _
          by_cases c3 : tk T E i' 3 41
          · rw [if_pos c3]
            have iC2 := CL_lt a2' (by have := c3.1; omega)
            have cs2 := cc_step (d := d' + 2) (L := L) (xs := xs) (O := O) (c := c) a2'.1 a2'.2.1 iC2
            refine ⟨_, ?_, CL_step a2' iC2, by show q.length + i ≤ i' + 1; omega, by rw [q_gu_ne (by omega), a4, q_gu_ne (by omega)], by rw [q_gu_ne (by omega), a5, q_gu_ne (by omega)], FL_trans F2 (FL_u a6 (by omega))⟩
            simp (disch := first | omega | exact q_b_01 _) only [↓reduceIte, q_bk0, q_bk1, q_bk2, q_sg_b, q_b_0, q_b_n0, q_b_1, q_b_n1, q_b_T, q_b_F, q_sg_g, q_sg_sg, q_sg_xs, q_sg_id, q_gu_ne, q_gu_eq, q_g_fne, q_g_cpe, q_w_f, q_v_f, q_u_f, q_fn_f, q_cp_f, q_sg_pg, q_sg_hc, q_lt_t, q_lt_f, q_le_t, q_le_f, q_eq_t, q_eq_f, ne_eq, eq_self, Bool.false_eq_true, Bool.true_eq_false, not_true_eq_false, not_false_eq_true, true_and, and_true, false_and, and_false, true_or, or_true, false_or, or_false, if_true, if_false, Int.reduceAdd, Int.reduceMul, Int.reduceSub, Int.reduceNeg, ia, ib, q_bf c1, q_bt c2, cs, ex, a1, ic, q_bt c3, cs2, R_80_0, R_80_10, R_80_15, R_80_25, R_80_28, R_80_34, R_80_41, R_80_42, R_80_49, R_80_53, R_80_60, R_80_63, R_80_70, R_80_71, R_80_83, R_80_86, R_80_90, R_80_91, R_80_105, R_80_112, R_80_119, C_80_7, C_80_22, C_80_38, C_80_46, C_80_57, C_80_67, C_80_80, C_80_87, C_80_102, C_80_109, C_80_116, R_82_0, R_82_5, R_82_8, R_82_10, R_82_20, R_82_23, R_82_30, R_82_31, R_82_38, C_82_2, C_82_17, C_82_27, C_82_35]
          · rw [if_neg c3]
            obtain ⟨u, b1, b2, b3⟩ := cc_ref (d := d' + 2) (L := L) (xs := xs) (O := O) (c := c) a2'
            refine ⟨u, ?_, b2, FL_trans F2 (FL_trans a6 b3)⟩
            simp (disch := first | omega | exact q_b_01 _) only [↓reduceIte, q_bk0, q_bk1, q_bk2, q_sg_b, q_b_0, q_b_n0, q_b_1, q_b_n1, q_b_T, q_b_F, q_sg_g, q_sg_sg, q_sg_xs, q_sg_id, q_gu_ne, q_gu_eq, q_g_fne, q_g_cpe, q_w_f, q_v_f, q_u_f, q_fn_f, q_cp_f, q_sg_pg, q_sg_hc, q_lt_t, q_lt_f, q_le_t, q_le_f, q_eq_t, q_eq_f, ne_eq, eq_self, Bool.false_eq_true, Bool.true_eq_false, not_true_eq_false, not_false_eq_true, true_and, and_true, false_and, and_false, true_or, or_true, false_or, or_false, if_true, if_false, Int.reduceAdd, Int.reduceMul, Int.reduceSub, Int.reduceNeg, ia, ib, q_bf c1, q_bt c2, cs, ex, a1, ic, q_bf c3, b1, R_80_0, R_80_10, R_80_15, R_80_25, R_80_28, R_80_34, R_80_41, R_80_42, R_80_49, R_80_53, R_80_60, R_80_63, R_80_70, R_80_71, R_80_83, R_80_86, R_80_90, R_80_91, R_80_105, R_80_112, R_80_119, C_80_7, C_80_22, C_80_38, C_80_46, C_80_57, C_80_67, C_80_80, C_80_87, C_80_102, C_80_109, C_80_116, R_82_0, R_82_5, R_82_8, R_82_10, R_82_20, R_82_23, R_82_30, R_82_31, R_82_38, C_82_2, C_82_17, C_82_27, C_82_35]
      · rw [if_neg c2]
        exact cc_plain hr i0 h hl c1 c2
end CLC
