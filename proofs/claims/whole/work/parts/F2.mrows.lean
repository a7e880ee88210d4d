/-! SLIPS; the reference: the rows that they will have -/
abbrev RqP (s : Nat → Int → Int32) (p : Int) : Prop := q_g s 303 p ≠ -1 ∧ q_g s 302 p = 0
noncomputable def rws (RC i k : Int) : Int := if RC - 6 * i < 0 then 0 else if k < RC - 6 * i then k else RC - 6 * i
/-- slip i as it will be written at page sl i -/
noncomputable def SlF (s : Nat → Int → Int32) (i : Int) (u : Nat → Int → Int32) : Prop :=
  q_g u 305 (16 * q_g s 304 i) = 3 ∧ q_g u 305 (16 * q_g s 304 i + 1) = rws (cnP (RqP s) 48) i 6 ∧ q_g u 305 (16 * q_g s 304 i + 3) = (if i + 1 < q_g s 285 34 then q_g s 304 (i + 1) else -1) ∧ ∀ k, 0 ≤ k → k < 6 → ∀ p, 0 ≤ p → p < 48 → RqP s p → cnP (RqP s) p = 6 * i + k → q_g u 305 (16 * q_g s 304 i + (4 + k)) = p ∧ q_g u 305 (16 * q_g s 304 i + (10 + k)) = q_g s 303 p
section MRW
variable {d L : Nat} {xs : Nat → Int32} {s t u : Nat → Int → Int32} {O : Nat → Int64} {c : Bool × Nat × Nat}
theorem mm_ptr {x1 x2 P i q k : Int} (P0 : 0 ≤ P) (P1 : P ≤ 48) : ∃ P', EV (d) 277 204 [.ref 285, .int (q_I (x1)), .int (q_I (x2)), .int (q_I (P)), .int (q_I (i)), .int (q_I (q)), .int (q_I (k))] [] (q_h L xs s O c) = EV (d) 277 235 [.ref 285, .int (q_I (x1)), .int (q_I (x2)), .int (q_I (P')), .int (q_I (i)), .int (q_I (q)), .int (q_I (k))] [] (q_h L xs s O c) ∧ P ≤ P' ∧ P' ≤ 48 ∧ (∀ j, P ≤ j → j < P' → ¬ RqP s j) ∧ (P' < 48 → RqP s P') := by
  have key := q_fd (fun j => EV (d) 277 204 [.ref 285, .int (q_I (x1)), .int (q_I (x2)), .int (q_I (j)), .int (q_I (i)), .int (q_I (q)), .int (q_I (k))] [] (q_h L xs s O c)) (fun j => RqP s j) (lo := P) (hi := 48) P1 (EV (d) 277 235 [.ref 285, .int (q_I (x1)), .int (q_I (x2)), .int (q_I (48)), .int (q_I (i)), .int (q_I (q)), .int (q_I (k))] [] (q_h L xs s O c)) (fun j => EV (d) 277 235 [.ref 285, .int (q_I (x1)), .int (q_I (x2)), .int (q_I (j)), .int (q_I (i)), .int (q_I (q)), .int (q_I (k))] [] (q_h L xs s O c)) (by
      show EV (d) 277 204 [.ref 285, .int (q_I (x1)), .int (q_I (x2)), .int (q_I (48)), .int (q_I (i)), .int (q_I (q)), .int (q_I (k))] [] (q_h L xs s O c) = _
      rw [R_277_204]
      simp (disch := first | omega | exact q_b_01 _) only [↓reduceIte, q_bk0, q_bk1, q_bk2, q_sg_b, q_b_0, q_b_n0, q_b_1, q_b_n1, q_b_T, q_b_F, q_sg_g, q_sg_sg, q_sg_xs, q_sg_id, q_gu_ne, q_gu_eq, q_g_fne, q_g_cpe, q_w_f, q_v_f, q_u_f, q_fn_f, q_cp_f, q_sg_pg, q_sg_hc, q_lt_t, q_lt_f, q_le_t, q_le_f, q_eq_t, q_eq_f, ne_eq, eq_self, Bool.false_eq_true, Bool.true_eq_false, not_true_eq_false, not_false_eq_true, true_and, and_true, false_and, and_false, true_or, or_true, false_or, or_false, if_true, if_false, Int.reduceAdd, Int.reduceMul, Int.reduceSub, Int.reduceNeg]) (fun j j0 j1 hj => by
      show EV (d) 277 204 [.ref 285, .int (q_I (x1)), .int (q_I (x2)), .int (q_I (j)), .int (q_I (i)), .int (q_I (q)), .int (q_I (k))] [] (q_h L xs s O c) = _
      have h1 := hj.1
      have h2 := hj.2
      rw [R_277_204]
      simp (disch := first | omega | exact q_b_01 _) only [↓reduceIte, q_bk0, q_bk1, q_bk2, q_sg_b, q_b_0, q_b_n0, q_b_1, q_b_n1, q_b_T, q_b_F, q_sg_g, q_sg_sg, q_sg_xs, q_sg_id, q_gu_ne, q_gu_eq, q_g_fne, q_g_cpe, q_w_f, q_v_f, q_u_f, q_fn_f, q_cp_f, q_sg_pg, q_sg_hc, q_lt_t, q_lt_f, q_le_t, q_le_f, q_eq_t, q_eq_f, ne_eq, eq_self, Bool.false_eq_true, Bool.true_eq_false, not_true_eq_false, not_false_eq_true, true_and, and_true, false_and, and_false, true_or, or_true, false_or, or_false, if_true, if_false, Int.reduceAdd, Int.reduceMul, Int.reduceSub, Int.reduceNeg, h1, h2, R_277_0, R_277_5, R_277_10, R_277_11, R_277_16, R_277_23, R_277_29, R_277_33, R_277_35, R_277_41, R_277_47, R_277_50, R_277_57, R_277_63, R_277_68, R_277_75, R_277_79, R_277_89, R_277_101, R_277_102, R_277_112, R_277_115, R_277_120, R_277_129, R_277_138, R_277_151, R_277_161, R_277_180, R_277_189, R_277_192, R_277_193, R_277_194, R_277_197, R_277_210, R_277_216, R_277_220, R_277_226, R_277_229, R_277_252, R_277_256, R_277_257, R_277_258, R_277_276, R_277_282, R_277_285, R_277_286, R_277_287, R_277_297, R_277_303, R_277_307, R_277_308, R_277_310, R_277_318, R_277_325, R_277_331, C_277_2, C_277_7, C_277_26, C_277_76, C_277_98, C_277_315]) (fun j j0 j1 hj => by
      show EV (d) 277 204 [.ref 285, .int (q_I (x1)), .int (q_I (x2)), .int (q_I (j)), .int (q_I (i)), .int (q_I (q)), .int (q_I (k))] [] (q_h L xs s O c) = EV (d) 277 204 [.ref 285, .int (q_I (x1)), .int (q_I (x2)), .int (q_I (j + 1)), .int (q_I (i)), .int (q_I (q)), .int (q_I (k))] [] (q_h L xs s O c)
      rw [R_277_204 (x3 := j)]
      by_cases h1 : q_g s 303 j = -1
      · simp (disch := first | omega | exact q_b_01 _) only [↓reduceIte, q_bk0, q_bk1, q_bk2, q_sg_b, q_b_0, q_b_n0, q_b_1, q_b_n1, q_b_T, q_b_F, q_sg_g, q_sg_sg, q_sg_xs, q_sg_id, q_gu_ne, q_gu_eq, q_g_fne, q_g_cpe, q_w_f, q_v_f, q_u_f, q_fn_f, q_cp_f, q_sg_pg, q_sg_hc, q_lt_t, q_lt_f, q_le_t, q_le_f, q_eq_t, q_eq_f, ne_eq, eq_self, Bool.false_eq_true, Bool.true_eq_false, not_true_eq_false, not_false_eq_true, true_and, and_true, false_and, and_false, true_or, or_true, false_or, or_false, if_true, if_false, Int.reduceAdd, Int.reduceMul, Int.reduceSub, Int.reduceNeg, h1, R_277_0, R_277_5, R_277_10, R_277_11, R_277_16, R_277_23, R_277_29, R_277_33, R_277_35, R_277_41, R_277_47, R_277_50, R_277_57, R_277_63, R_277_68, R_277_75, R_277_79, R_277_89, R_277_101, R_277_102, R_277_112, R_277_115, R_277_120, R_277_129, R_277_138, R_277_151, R_277_161, R_277_180, R_277_189, R_277_192, R_277_193, R_277_194, R_277_197, R_277_210, R_277_216, R_277_220, R_277_226, R_277_229, R_277_252, R_277_256, R_277_257, R_277_258, R_277_276, R_277_282, R_277_285, R_277_286, R_277_287, R_277_297, R_277_303, R_277_307, R_277_308, R_277_310, R_277_318, R_277_325, R_277_331, C_277_2, C_277_7, C_277_26, C_277_76, C_277_98, C_277_315]
      · have h2 : ¬ q_g s 302 j = 0 := fun h2 => hj ⟨h1, h2⟩
        simp (disch := first | omega | exact q_b_01 _) only [↓reduceIte, q_bk0, q_bk1, q_bk2, q_sg_b, q_b_0, q_b_n0, q_b_1, q_b_n1, q_b_T, q_b_F, q_sg_g, q_sg_sg, q_sg_xs, q_sg_id, q_gu_ne, q_gu_eq, q_g_fne, q_g_cpe, q_w_f, q_v_f, q_u_f, q_fn_f, q_cp_f, q_sg_pg, q_sg_hc, q_lt_t, q_lt_f, q_le_t, q_le_f, q_eq_t, q_eq_f, ne_eq, eq_self, Bool.false_eq_true, Bool.true_eq_false, not_true_eq_false, not_false_eq_true, true_and, and_true, false_and, and_false, true_or, or_true, false_or, or_false, if_true, if_false, Int.reduceAdd, Int.reduceMul, Int.reduceSub, Int.reduceNeg, h1, h2, R_277_0, R_277_5, R_277_10, R_277_11, R_277_16, R_277_23, R_277_29, R_277_33, R_277_35, R_277_41, R_277_47, R_277_50, R_277_57, R_277_63, R_277_68, R_277_75, R_277_79, R_277_89, R_277_101, R_277_102, R_277_112, R_277_115, R_277_120, R_277_129, R_277_138, R_277_151, R_277_161, R_277_180, R_277_189, R_277_192, R_277_193, R_277_194, R_277_197, R_277_210, R_277_216, R_277_220, R_277_226, R_277_229, R_277_252, R_277_256, R_277_257, R_277_258, R_277_276, R_277_282, R_277_285, R_277_286, R_277_287, R_277_297, R_277_303, R_277_307, R_277_308, R_277_310, R_277_318, R_277_325, R_277_331, C_277_2, C_277_7, C_277_26, C_277_76, C_277_98, C_277_315])
  rcases key with ⟨j, j0, j1, hj, hb, ej⟩ | ⟨hn, ej⟩
  · exact ⟨j, ej, j0, by omega, hb, fun _ => hj⟩
  · exact ⟨48, ej, P1, by omega, hn, fun h => by omega⟩
/-- the rows of one slip, ahead of row k -/
noncomputable def J1 (s : Nat → Int → Int32) (q i k : Int) (t : (Nat → Int → Int32) × Int) : Prop :=
  (0 ≤ t.2 ∧ t.2 ≤ 48 ∧ (6 * i + k ≤ cnP (RqP s) 48 → cnP (RqP s) t.2 = 6 * i + k) ∧ (cnP (RqP s) 48 < 6 * i + k → t.2 = 48)) ∧ q_g t.1 305 (q + 1) = rws (cnP (RqP s) 48) i k ∧ (∀ k', 0 ≤ k' → k' < k → ∀ p, 0 ≤ p → p < 48 → RqP s p → cnP (RqP s) p = 6 * i + k' → q_g t.1 305 (q + (4 + k')) = p ∧ q_g t.1 305 (q + (10 + k')) = q_g s 303 p) ∧ (∀ z, ¬ (q ≤ z ∧ z < q + 16) ∨ z = q ∨ z = q + 3 → t.1 305 z = s 305 z) ∧ ∀ k z, k ≠ 305 → t.1 k z = s k z
theorem mm_slip1 {x1 x2 P i q : Int} (q0 : 0 ≤ q) (q1 : q + 16 ≤ 768) (i0 : 0 ≤ i) (i1 : i ≤ 9) (H : J1 s q i 0 (s, P)) : ∃ t, EV (d + 1) 277 197 [.ref 285, .int (q_I (x1)), .int (q_I (x2)), .int (q_I (P)), .int (q_I (i)), .int (q_I (q)), .int (q_I (0))] [] (q_h L xs s O c) = EV (d + 1) 277 325 [.ref 285, .int (q_I (x1)), .int (q_I (x2)), .int (q_I (t.2)), .int (q_I (i)), .int (q_I (q)), .int (q_I (6))] [] (q_h L xs (t.1) O c) ∧ J1 s q i 6 t := by
  have RCr := cnP_rg (P := RqP s) (p := 48) (by omega)
  obtain ⟨t, t1, t2⟩ := q_for (fun k (t : (Nat → Int → Int32) × Int) => EV (d + 1) 277 197 [.ref 285, .int (q_I (x1)), .int (q_I (x2)), .int (q_I (t.2)), .int (q_I (i)), .int (q_I (q)), .int (q_I (k))] [] (q_h L xs (t.1) O c)) (J1 s q i) (lo := 0) (hi := 6) (by omega) (fun k t k0 k1 J => by
      obtain ⟨⟨a1, a2, a3, a4⟩, b, e, f, g⟩ := J
      have gg : ∀ k z, k ≠ 305 → q_g t.1 k z = q_g s k z := fun k z hk => by
        show (t.1 k z).toInt = _
        rw [g k z hk]
        rfl
      have eR : ∀ j, RqP t.1 j ↔ RqP s j := fun j => by
        unfold RqP
        rw [gg 303 j (by omega), gg 302 j (by omega)]
      obtain ⟨P', p1, p2, p3, p4, p5⟩ := mm_ptr (d := d + 1) (L := L) (xs := xs) (s := t.1) (O := O) (c := c) (x1 := x1) (x2 := x2) (P := t.2) (i := i) (q := q) (k := k) a1 a2
      have cs : cnP (RqP s) P' = cnP (RqP s) t.2 := cnP_same a1 p2 (fun j j0 j1 h => p4 j j0 j1 ((eR j).mpr h))
      have rr : -10 ≤ rws (cnP (RqP s) 48) i k ∧ rws (cnP (RqP s) 48) i k ≤ 48 := by
        unfold rws
        split
        · omega
        · split <;> omega
      by_cases e48 : P' = 48
      · subst e48
        have w1 : q_g (q_u (q_u t.1 305 (q + 4 + k) 0) 305 (q + 10 + k) 0) 305 (q + 1) = rws (cnP (RqP s) 48) i k := by rw [q_gu_ne (by omega), q_gu_ne (by omega), b]
        have RCn : cnP (RqP s) 48 ≤ 6 * i + k := by
          by_cases h : 6 * i + k ≤ cnP (RqP s) 48
          · have := a3 h
            omega
          · omega
        have rk : rws (cnP (RqP s) 48) i (k + 1) = rws (cnP (RqP s) 48) i k := by
          unfold rws
          split
          · rfl
          · split <;> split <;> omega
        refine ⟨(q_u (q_u (q_u t.1 305 (q + 4 + k) 0) 305 (q + 10 + k) 0) 305 (q + 1) (rws (cnP (RqP s) 48) i k + 0), 48), ?_, ⟨⟨by dsimp only; omega, by dsimp only; omega, fun h => by omega, fun _ => rfl⟩, ?_, fun k' k0' k1' p p0 p1' hp hc => ?_, fun z hz => ?_, fun k z hk => ?_⟩⟩
        · show EV (d + 1) 277 197 [.ref 285, .int (q_I (x1)), .int (q_I (x2)), .int (q_I (t.2)), .int (q_I (i)), .int (q_I (q)), .int (q_I (k))] [] (q_h L xs (t.1) O c) = EV (d + 1) 277 197 [.ref 285, .int (q_I (x1)), .int (q_I (x2)), .int (q_I (48)), .int (q_I (i)), .int (q_I (q)), .int (q_I (k + 1))] [] (q_h L xs (q_u (q_u (q_u t.1 305 (q + 4 + k) 0) 305 (q + 10 + k) 0) 305 (q + 1) (rws (cnP (RqP s) 48) i k + 0)) O c)
          rw [R_277_197 (x6 := k)]
          simp (disch := first | omega | exact q_b_01 _) only [↓reduceIte, q_bk0, q_bk1, q_bk2, q_sg_b, q_b_0, q_b_n0, q_b_1, q_b_n1, q_b_T, q_b_F, q_sg_g, q_sg_sg, q_sg_xs, q_sg_id, q_gu_ne, q_gu_eq, q_g_fne, q_g_cpe, q_w_f, q_v_f, q_u_f, q_fn_f, q_cp_f, q_sg_pg, q_sg_hc, q_lt_t, q_lt_f, q_le_t, q_le_f, q_eq_t, q_eq_f, ne_eq, eq_self, Bool.false_eq_true, Bool.true_eq_false, not_true_eq_false, not_false_eq_true, true_and, and_true, false_and, and_false, true_or, or_true, false_or, or_false, if_true, if_false, Int.reduceAdd, Int.reduceMul, Int.reduceSub, Int.reduceNeg, p1, w1, mm_lesser, R_277_0, R_277_5, R_277_10, R_277_11, R_277_16, R_277_23, R_277_29, R_277_33, R_277_35, R_277_41, R_277_47, R_277_50, R_277_57, R_277_63, R_277_68, R_277_75, R_277_79, R_277_89, R_277_101, R_277_102, R_277_112, R_277_115, R_277_120, R_277_129, R_277_138, R_277_151, R_277_161, R_277_180, R_277_189, R_277_192, R_277_193, R_277_194, R_277_210, R_277_216, R_277_220, R_277_226, R_277_229, R_277_235, R_277_252, R_277_256, R_277_257, R_277_258, R_277_276, R_277_282, R_277_285, R_277_286, R_277_287, R_277_297, R_277_303, R_277_307, R_277_308, R_277_310, R_277_318, R_277_325, R_277_331, C_277_2, C_277_7, C_277_26, C_277_76, C_277_98, C_277_315]
        · dsimp only
          rw [q_gu_eq rfl, q_sg_id (by omega) (by omega), rk]
          omega
        · have := cnP_lt p0 hp p1'
          dsimp only
          have hk' : k' < k := by omega
          obtain ⟨y1, y2⟩ := e k' k0' hk' p p0 p1' hp hc
          refine ⟨?_, ?_⟩
          · rw [q_gu_ne (by omega), q_gu_ne (by omega), q_gu_ne (by omega)]
            exact y1
          · rw [q_gu_ne (by omega), q_gu_ne (by omega), q_gu_ne (by omega)]
            exact y2
        · dsimp only
          rw [q_u_n (by omega), q_u_n (by omega), q_u_n (by omega), f z hz]
        · dsimp only
          rw [q_u_n (by omega), q_u_n (by omega), q_u_n (by omega), g k z hk]
      · have rp := (eR P').mp (p5 (by omega))
        have P0' : 0 ≤ P' := by omega
        have P48 : P' < 48 := by omega
        have lt48 := cnP_lt (P := RqP s) P0' rp P48
        have hle : 6 * i + k ≤ cnP (RqP s) 48 := Classical.byContradiction fun h => by
          have := a4 (by omega)
          omega
        have cP : cnP (RqP s) P' = 6 * i + k := by rw [cs, a3 hle]
        have g303 : q_g (q_u t.1 305 (q + 4 + k) P') 303 P' = q_g s 303 P' := by rw [q_gu_ne (by omega), gg 303 P' (by omega)]
        have w1 : q_g (q_u (q_u t.1 305 (q + 4 + k) P') 305 (q + 10 + k) (q_g s 303 P')) 305 (q + 1) = rws (cnP (RqP s) 48) i k := by rw [q_gu_ne (by omega), q_gu_ne (by omega), b]
        have rk : rws (cnP (RqP s) 48) i (k + 1) = rws (cnP (RqP s) 48) i k + 1 := by
          unfold rws
          repeat' split
          all_goals omega
        have gr := q_g_rg s 303 P'
        refine ⟨(q_u (q_u (q_u t.1 305 (q + 4 + k) P') 305 (q + 10 + k) (q_g s 303 P')) 305 (q + 1) (rws (cnP (RqP s) 48) i k + 1), P' + 1), ?_, ⟨⟨by dsimp only; omega, by dsimp only; omega, fun h => ?_, fun h => ?_⟩, ?_, fun k' k0' k1' p p0 p1' hp hc => ?_, fun z hz => ?_, fun k z hk => ?_⟩⟩
        · show EV (d + 1) 277 197 [.ref 285, .int (q_I (x1)), .int (q_I (x2)), .int (q_I (t.2)), .int (q_I (i)), .int (q_I (q)), .int (q_I (k))] [] (q_h L xs (t.1) O c) = EV (d + 1) 277 197 [.ref 285, .int (q_I (x1)), .int (q_I (x2)), .int (q_I (P' + 1)), .int (q_I (i)), .int (q_I (q)), .int (q_I (k + 1))] [] (q_h L xs (q_u (q_u (q_u t.1 305 (q + 4 + k) P') 305 (q + 10 + k) (q_g s 303 P')) 305 (q + 1) (rws (cnP (RqP s) 48) i k + 1)) O c)
          rw [R_277_197 (x6 := k)]
          simp (disch := first | omega | exact q_b_01 _) only [↓reduceIte, q_bk0, q_bk1, q_bk2, q_sg_b, q_b_0, q_b_n0, q_b_1, q_b_n1, q_b_T, q_b_F, q_sg_g, q_sg_sg, q_sg_xs, q_sg_id, q_gu_ne, q_gu_eq, q_g_fne, q_g_cpe, q_w_f, q_v_f, q_u_f, q_fn_f, q_cp_f, q_sg_pg, q_sg_hc, q_lt_t, q_lt_f, q_le_t, q_le_f, q_eq_t, q_eq_f, ne_eq, eq_self, Bool.false_eq_true, Bool.true_eq_false, not_true_eq_false, not_false_eq_true, true_and, and_true, false_and, and_false, true_or, or_true, false_or, or_false, if_true, if_false, Int.reduceAdd, Int.reduceMul, Int.reduceSub, Int.reduceNeg, p1, g303, w1, mm_lesser, R_277_0, R_277_5, R_277_10, R_277_11, R_277_16, R_277_23, R_277_29, R_277_33, R_277_35, R_277_41, R_277_47, R_277_50, R_277_57, R_277_63, R_277_68, R_277_75, R_277_79, R_277_89, R_277_101, R_277_102, R_277_112, R_277_115, R_277_120, R_277_129, R_277_138, R_277_151, R_277_161, R_277_180, R_277_189, R_277_192, R_277_193, R_277_194, R_277_210, R_277_216, R_277_220, R_277_226, R_277_229, R_277_235, R_277_252, R_277_256, R_277_257, R_277_258, R_277_276, R_277_282, R_277_285, R_277_286, R_277_287, R_277_297, R_277_303, R_277_307, R_277_308, R_277_310, R_277_318, R_277_325, R_277_331, C_277_2, C_277_7, C_277_26, C_277_76, C_277_98, C_277_315]
        · dsimp only
          rw [cnP_1 P0', q_bt rp, cP]
          omega
        · dsimp only
          omega
        · dsimp only
          rw [q_gu_eq rfl, q_sg_id (by omega) (by omega), rk]
        · dsimp only
          by_cases ek : k' = k
          · have ep : p = P' := cnP_inj p0 P0' hp rp (by omega)
            rw [ek, ep]
            refine ⟨?_, ?_⟩
            · rw [q_gu_ne (by omega), q_gu_ne (by omega), q_gu_eq (by omega), q_sg_id (by omega) (by omega)]
            · rw [q_gu_ne (by omega), q_gu_eq (by omega), q_sg_id gr.1 gr.2]
          · obtain ⟨y1, y2⟩ := e k' k0' (by omega) p p0 p1' hp hc
            refine ⟨?_, ?_⟩
            · rw [q_gu_ne (by omega), q_gu_ne (by omega), q_gu_ne (by omega)]
              exact y1
            · rw [q_gu_ne (by omega), q_gu_ne (by omega), q_gu_ne (by omega)]
              exact y2
        · dsimp only
          rw [q_u_n (by omega), q_u_n (by omega), q_u_n (by omega), f z hz]
        · dsimp only
          rw [q_u_n (by omega), q_u_n (by omega), q_u_n (by omega), g k z hk]) (t := (s, P)) H
  refine ⟨t, ?_, t2⟩
  refine t1.trans ?_
  show EV (d + 1) 277 197 [.ref 285, .int (q_I (x1)), .int (q_I (x2)), .int (q_I (t.2)), .int (q_I (i)), .int (q_I (q)), .int (q_I (6))] [] (q_h L xs (t.1) O c) = _
  rw [R_277_197]
  simp (disch := first | omega | exact q_b_01 _) only [↓reduceIte, q_bk0, q_bk1, q_bk2, q_sg_b, q_b_0, q_b_n0, q_b_1, q_b_n1, q_b_T, q_b_F, q_sg_g, q_sg_sg, q_sg_xs, q_sg_id, q_gu_ne, q_gu_eq, q_g_fne, q_g_cpe, q_w_f, q_v_f, q_u_f, q_fn_f, q_cp_f, q_sg_pg, q_sg_hc, q_lt_t, q_lt_f, q_le_t, q_le_f, q_eq_t, q_eq_f, ne_eq, eq_self, Bool.false_eq_true, Bool.true_eq_false, not_true_eq_false, not_false_eq_true, true_and, and_true, false_and, and_false, true_or, or_true, false_or, or_false, if_true, if_false, Int.reduceAdd, Int.reduceMul, Int.reduceSub, Int.reduceNeg]
end MRW
