/-! SLIPS; the reference: all of them -/
theorem cnP_cg {P Q : Int → Prop} [DecidablePred P] [DecidablePred Q] (h : ∀ p, P p ↔ Q p) (p : Int) : cnP P p = cnP Q p := by
  unfold cnP
  exact q_S_c (fun i _ _ => q_b_c (h i))
section MR2
variable {d L : Nat} {xs : Nat → Int32} {s t u : Nat → Int → Int32} {O : Nat → Int64} {c : Bool × Nat × Nat}
noncomputable def J2 (s : Nat → Int → Int32) (i : Int) (t : (Nat → Int → Int32) × Int × Value × Value) : Prop :=
  (0 ≤ t.2.1 ∧ t.2.1 ≤ 48 ∧ (6 * i ≤ cnP (RqP s) 48 → cnP (RqP s) t.2.1 = 6 * i) ∧ (cnP (RqP s) 48 < 6 * i → t.2.1 = 48)) ∧ ((∀ i j, 0 ≤ i → i < q_g s 285 34 → 0 ≤ j → j < q_g s 285 34 → i ≠ j → q_g s 304 i ≠ q_g s 304 j) → ∀ i', 0 ≤ i' → i' < i → SlF s i' t.1) ∧ (∀ z, (∀ j, 0 ≤ j → j < q_g s 285 34 → ¬ (16 * q_g s 304 j ≤ z ∧ z < 16 * q_g s 304 j + 16)) → t.1 305 z = s 305 z) ∧ ∀ k z, k ≠ 305 → t.1 k z = s k z
theorem mm_slipsR {x1 x2 : Int} {x3 x4 x5 x6 : Value} (sm0 : 0 ≤ q_g s 285 34) (sm9 : q_g s 285 34 ≤ 9) (hsl : ∀ j, 0 ≤ j → j < q_g s 285 34 → 0 ≤ q_g s 304 j ∧ q_g s 304 j < 48) {y3 : Int} : ∃ u, EV (d + 1) 277 115 [.ref 285, .int (q_I (x1)), .int (q_I (x2)), .int (q_I (y3)), x4, x5, x6] [] (q_h L xs s O c) = some (.inl none, q_h L xs (u) O c) ∧ ((∀ i j, 0 ≤ i → i < q_g s 285 34 → 0 ≤ j → j < q_g s 285 34 → i ≠ j → q_g s 304 i ≠ q_g s 304 j) → ∀ i', 0 ≤ i' → i' < q_g s 285 34 → SlF s i' u) ∧ (∀ z, (∀ j, 0 ≤ j → j < q_g s 285 34 → ¬ (16 * q_g s 304 j ≤ z ∧ z < 16 * q_g s 304 j + 16)) → u 305 z = s 305 z) ∧ ∀ k z, k ≠ 305 → u k z = s k z := by
  obtain ⟨t, t1, t2⟩ := q_for (fun i (t : (Nat → Int → Int32) × Int × Value × Value) => EV (d + 1) 277 120 [.ref 285, .int (q_I (x1)), .int (q_I (x2)), .int (q_I (t.2.1)), .int (q_I (i)), t.2.2.1, t.2.2.2] [] (q_h L xs (t.1) O c)) (J2 s) (lo := 0) (hi := q_g s 285 34) sm0 (fun i t i0 i1 J => by
      obtain ⟨⟨a1, a2, a3, a4⟩, b, e, f⟩ := J
      obtain ⟨h0, h1⟩ := hsl i i0 i1
      have gg : ∀ k z, k ≠ 305 → q_g t.1 k z = q_g s k z := fun k z hk => by
        show (t.1 k z).toInt = _
        rw [f k z hk]
        rfl
      have e34 := gg 285 34 (by omega)
      have e304 := gg 304 i (by omega)
      have n304 := gg 304 (i + 1) (by omega)
      generalize hq : 16 * q_g s 304 i = q at *
      generalize hnx : (if i + 1 < q_g s 285 34 then q_g s 304 (i + 1) else -1) = nx at *
      have nxr : -1 ≤ nx ∧ nx < 48 := by
        rw [← hnx]
        split
        · have := hsl (i + 1) (by omega) (by omega)
          omega
        · omega
      generalize hS : q_u (q_u (q_u t.1 305 (q + 0) 3) 305 (q + 1) 0) 305 (q + 3) nx = S
      have Sg : ∀ k z, k ≠ 305 → q_g S k z = q_g s k z := fun k z hk => by rw [← hS, q_gu_ne (by omega), q_gu_ne (by omega), q_gu_ne (by omega), gg k z hk]
      have Sk : ∀ k z, k ≠ 305 → S k z = s k z := fun k z hk => by rw [← hS, q_u_n (by omega), q_u_n (by omega), q_u_n (by omega), f k z hk]
      have eR : ∀ j, RqP S j ↔ RqP s j := fun j => by
        unfold RqP
        rw [Sg 303 j (by omega), Sg 302 j (by omega)]
      have eC := cnP_cg eR
      have pre : EV (d + 1) 277 120 [.ref 285, .int (q_I (x1)), .int (q_I (x2)), .int (q_I (t.2.1)), .int (q_I (i)), t.2.2.1, t.2.2.2] [] (q_h L xs (t.1) O c) = EV (d + 1) 277 197 [.ref 285, .int (q_I (x1)), .int (q_I (x2)), .int (q_I (t.2.1)), .int (q_I (i)), .int (q_I (q)), .int (q_I (0))] [] (q_h L xs (S) O c) := by
        rw [R_277_120, ← hS]
        by_cases en : i + 1 < q_g s 285 34
        · rw [if_pos en] at hnx
          have n' : q_g (q_u (q_u t.1 305 (q + 0) 3) 305 (q + 1) 0) 304 (i + 1) = nx := by rw [q_gu_ne (by omega), q_gu_ne (by omega), n304, hnx]
          simp (disch := first | omega | exact q_b_01 _) only [↓reduceIte, q_bk0, q_bk1, q_bk2, q_sg_b, q_b_0, q_b_n0, q_b_1, q_b_n1, q_b_T, q_b_F, q_sg_g, q_sg_sg, q_sg_xs, q_sg_id, q_gu_ne, q_gu_eq, q_g_fne, q_g_cpe, q_w_f, q_v_f, q_u_f, q_fn_f, q_cp_f, q_sg_pg, q_sg_hc, q_lt_t, q_lt_f, q_le_t, q_le_f, q_eq_t, q_eq_f, ne_eq, eq_self, Bool.false_eq_true, Bool.true_eq_false, not_true_eq_false, not_false_eq_true, true_and, and_true, false_and, and_false, true_or, or_true, false_or, or_false, if_true, if_false, Int.reduceAdd, Int.reduceMul, Int.reduceSub, Int.reduceNeg, e34, e304, hq, n', R_277_0, R_277_5, R_277_10, R_277_11, R_277_16, R_277_23, R_277_29, R_277_33, R_277_35, R_277_41, R_277_47, R_277_50, R_277_57, R_277_63, R_277_68, R_277_75, R_277_79, R_277_89, R_277_101, R_277_102, R_277_112, R_277_115, R_277_129, R_277_138, R_277_151, R_277_161, R_277_180, R_277_189, R_277_192, R_277_193, R_277_194, R_277_204, R_277_210, R_277_216, R_277_220, R_277_226, R_277_229, R_277_235, R_277_252, R_277_256, R_277_257, R_277_258, R_277_276, R_277_282, R_277_285, R_277_286, R_277_287, R_277_297, R_277_303, R_277_307, R_277_308, R_277_310, R_277_318, R_277_325, R_277_331, C_277_2, C_277_7, C_277_26, C_277_76, C_277_98, C_277_315]
        · rw [if_neg en] at hnx
          simp (disch := first | omega | exact q_b_01 _) only [↓reduceIte, q_bk0, q_bk1, q_bk2, q_sg_b, q_b_0, q_b_n0, q_b_1, q_b_n1, q_b_T, q_b_F, q_sg_g, q_sg_sg, q_sg_xs, q_sg_id, q_gu_ne, q_gu_eq, q_g_fne, q_g_cpe, q_w_f, q_v_f, q_u_f, q_fn_f, q_cp_f, q_sg_pg, q_sg_hc, q_lt_t, q_lt_f, q_le_t, q_le_f, q_eq_t, q_eq_f, ne_eq, eq_self, Bool.false_eq_true, Bool.true_eq_false, not_true_eq_false, not_false_eq_true, true_and, and_true, false_and, and_false, true_or, or_true, false_or, or_false, if_true, if_false, Int.reduceAdd, Int.reduceMul, Int.reduceSub, Int.reduceNeg, e34, e304, hq, hnx, R_277_0, R_277_5, R_277_10, R_277_11, R_277_16, R_277_23, R_277_29, R_277_33, R_277_35, R_277_41, R_277_47, R_277_50, R_277_57, R_277_63, R_277_68, R_277_75, R_277_79, R_277_89, R_277_101, R_277_102, R_277_112, R_277_115, R_277_129, R_277_138, R_277_151, R_277_161, R_277_180, R_277_189, R_277_192, R_277_193, R_277_194, R_277_204, R_277_210, R_277_216, R_277_220, R_277_226, R_277_229, R_277_235, R_277_252, R_277_256, R_277_257, R_277_258, R_277_276, R_277_282, R_277_285, R_277_286, R_277_287, R_277_297, R_277_303, R_277_307, R_277_308, R_277_310, R_277_318, R_277_325, R_277_331, C_277_2, C_277_7, C_277_26, C_277_76, C_277_98, C_277_315]
      obtain ⟨w, w1, ⟨v1, v2, v3, v4⟩, w2, w3, w4, w5⟩ := mm_slip1 (d := d) (L := L) (xs := xs) (s := S) (O := O) (c := c) (x1 := x1) (x2 := x2) (P := t.2.1) (i := i) (q := q) (by omega) (by omega) i0 (by omega) ⟨⟨a1, a2, fun h => by rw [eC] at h ⊢; rw [Int.add_zero] at h ⊢; exact a3 h, fun h => by rw [eC] at h; exact a4 (by omega)⟩, by
          dsimp only
          rw [← hS, q_gu_ne (by omega), q_gu_eq rfl]
          unfold rws
          split
          · rfl
          · split
            · rfl
            · have := cnP_rg (P := RqP (q_u (q_u (q_u t.1 305 (q + 0) 3) 305 (q + 1) 0) 305 (q + 3) nx)) (p := 48) (by omega)
              have z0 : q_sg 0 = 0 := rfl
              rw [z0]
              omega, fun k' k0' k1' => by omega, fun z _ => rfl, fun k z _ => rfl⟩
      rw [eC] at v3 v4 w2
      rw [eC] at v3
      refine ⟨(w.1, w.2, .int (q_I q), .int (q_I 6)), ?_, ⟨⟨v1, v2, fun h => ?_, fun h => v4 (by omega)⟩, fun hD i' i0' i1' => ?_, fun z hz => ?_, fun k z hk => ?_⟩⟩
      · show EV (d + 1) 277 120 [.ref 285, .int (q_I (x1)), .int (q_I (x2)), .int (q_I (t.2.1)), .int (q_I (i)), t.2.2.1, t.2.2.2] [] (q_h L xs (t.1) O c) = EV (d + 1) 277 120 [.ref 285, .int (q_I (x1)), .int (q_I (x2)), .int (q_I (w.2)), .int (q_I (i + 1)), .int (q_I (q)), .int (q_I (6))] [] (q_h L xs (w.1) O c)
        rw [pre, w1, R_277_325]
      · have := v3 (by omega)
        show cnP (RqP s) w.2 = 6 * (i + 1)
        omega
      · by_cases ei : i' = i
        · subst ei
          refine ⟨?_, ?_, ?_, fun k k0 k1 p p0 p1 hp hc => ?_⟩
          · rw [hq]
            show (w.1 305 q).toInt = 3
            rw [w4 q (Or.inr (Or.inl rfl))]
            show q_g S 305 q = 3
            rw [← hS, q_gu_ne (by omega), q_gu_ne (by omega), q_gu_eq (by omega)]
            rfl
          · rw [hq]
            exact w2
          · rw [hq, hnx]
            show (w.1 305 (q + 3)).toInt = nx
            rw [w4 (q + 3) (Or.inr (Or.inr rfl))]
            show q_g S 305 (q + 3) = nx
            rw [← hS, q_gu_eq rfl, q_sg_id (by omega) (by omega)]
          · rw [hq]
            have := w3 k k0 k1 p p0 p1 ((eR p).mpr hp) (by rw [eC]; exact hc)
            rw [Sg 303 p (by omega)] at this
            exact this
        · obtain ⟨y1, y2, y3, y4⟩ := b hD i' i0' (by omega)
          have ne := hD i' i i0' (by omega) i0 i1 ei
          have rg := hsl i' i0' (by omega)
          have keep : ∀ z, 0 ≤ z → z < 16 → q_g w.1 305 (16 * q_g s 304 i' + z) = q_g t.1 305 (16 * q_g s 304 i' + z) := fun z z0 z1 => by
            show (w.1 305 (16 * q_g s 304 i' + z)).toInt = _
            rw [w4 _ (Or.inl (by omega))]
            show q_g S 305 (16 * q_g s 304 i' + z) = _
            rw [← hS, q_gu_ne (by omega), q_gu_ne (by omega), q_gu_ne (by omega)]
          refine ⟨?_, ?_, ?_, fun k k0 k1 p p0 p1 hp hc => ?_⟩
          · have := keep 0 (by omega) (by omega)
            rw [Int.add_zero] at this
            rw [this]
            exact y1
          · rw [keep 1 (by omega) (by omega)]
            exact y2
          · rw [keep 3 (by omega) (by omega)]
            exact y3
          · rw [keep (4 + k) (by omega) (by omega), keep (10 + k) (by omega) (by omega)]
            exact y4 k k0 k1 p p0 p1 hp hc
      · show w.1 305 z = s 305 z
        have hz' := hz i i0 i1
        rw [hq] at hz'
        rw [w4 z (Or.inl hz'), ← hS, q_u_n (by omega), q_u_n (by omega), q_u_n (by omega), e z hz]
      · show w.1 k z = s k z
        rw [w5 k z hk, Sk k z hk]) (t := (s, 0, x5, x6)) ⟨⟨by dsimp only; omega, by dsimp only; omega, fun _ => by dsimp only; rw [cnP_0]; rfl, fun h => by have := cnP_rg (P := RqP s) (p := 48) (by omega); omega⟩, fun _ i' _ _ => by omega, fun _ _ => rfl, fun _ _ _ => rfl⟩
  obtain ⟨-, b, e, f⟩ := t2
  have e34 : q_g t.1 285 34 = q_g s 285 34 := by
    show (t.1 285 34).toInt = _
    rw [f 285 34 (by omega)]
    rfl
  refine ⟨t.1, ?_, b, e, f⟩
  rw [R_277_115]
  refine t1.trans ?_
  show EV (d + 1) 277 120 [.ref 285, .int (q_I (x1)), .int (q_I (x2)), .int (q_I (t.2.1)), .int (q_I (q_g s 285 34)), t.2.2.1, t.2.2.2] [] (q_h L xs (t.1) O c) = _
  rw [R_277_120]
  simp (disch := first | omega | exact q_b_01 _) only [↓reduceIte, q_bk0, q_bk1, q_bk2, q_sg_b, q_b_0, q_b_n0, q_b_1, q_b_n1, q_b_T, q_b_F, q_sg_g, q_sg_sg, q_sg_xs, q_sg_id, q_gu_ne, q_gu_eq, q_g_fne, q_g_cpe, q_w_f, q_v_f, q_u_f, q_fn_f, q_cp_f, q_sg_pg, q_sg_hc, q_lt_t, q_lt_f, q_le_t, q_le_f, q_eq_t, q_eq_f, ne_eq, eq_self, Bool.false_eq_true, Bool.true_eq_false, not_true_eq_false, not_false_eq_true, true_and, and_true, false_and, and_false, true_or, or_true, false_or, or_false, if_true, if_false, Int.reduceAdd, Int.reduceMul, Int.reduceSub, Int.reduceNeg, e34, R_277_0, R_277_5, R_277_10, R_277_11, R_277_16, R_277_23, R_277_29, R_277_33, R_277_35, R_277_41, R_277_47, R_277_50, R_277_57, R_277_63, R_277_68, R_277_75, R_277_79, R_277_89, R_277_101, R_277_102, R_277_112, R_277_115, R_277_129, R_277_138, R_277_151, R_277_161, R_277_180, R_277_189, R_277_192, R_277_193, R_277_194, R_277_197, R_277_204, R_277_210, R_277_216, R_277_220, R_277_226, R_277_229, R_277_235, R_277_252, R_277_256, R_277_257, R_277_258, R_277_276, R_277_282, R_277_285, R_277_286, R_277_287, R_277_297, R_277_303, R_277_307, R_277_308, R_277_310, R_277_318, R_277_325, R_277_331, C_277_2, C_277_7, C_277_26, C_277_76, C_277_98, C_277_315]
end MR2
