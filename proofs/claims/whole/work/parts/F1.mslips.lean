/-! SLIPS; the reference: what is free from now on, and the pages that its list takes -/
theorem q_S_add {f g h : Int → Int} {lo hi : Int} (hle : lo ≤ hi) (e : ∀ i, lo ≤ i → i < hi → f i = g i + h i) : q_S f lo hi = q_S g lo hi + q_S h lo hi := by
  have key : ∀ n : Nat, lo + n ≤ hi → q_S f lo (lo + n) = q_S g lo (lo + n) + q_S h lo (lo + n) := fun n => by
    induction n with
    | zero =>
      intro _
      rw [show lo + ((0 : Nat) : Int) = lo by omega, q_S_0, q_S_0, q_S_0]
      rfl
    | succ n ih =>
      intro hn
      rw [show lo + ((n + 1 : Nat) : Int) = lo + (n : Int) + 1 by omega, q_S_1 _ (by omega), q_S_1 _ (by omega), q_S_1 _ (by omega), ih (by omega), e _ (by omega) (by omega)]
      omega
  have := key (hi - lo).toNat (by omega)
  rw [show lo + (((hi - lo).toNat : Nat) : Int) = hi by omega] at this
  exact this
section MSL
variable {d L : Nat} {xs : Nat → Int32} {s u : Nat → Int → Int32} {O : Nat → Int64} {c : Bool × Nat × Nat} {m F : Int → Int} {Lf : Int → Prop} {k kN sc p : Int}
theorem rw_cnt (I : TkI m) (hF : FuI m F) (hH : ∀ p, hc m 3 ≤ p → p < 48 → F p = -1) (k0 : 0 ≤ k) : q_S (fun p => q_b (F p ≠ -1 ∧ ¬ TK m k p)) 0 48 = rwl m F k := by
  have a := q_S_add (f := fun p => q_b (F p ≠ -1)) (g := fun p => q_b (F p ≠ -1 ∧ ¬ TK m k p)) (h := fun p => q_b (Us m p ∧ nu m p < k)) (lo := 0) (hi := 48) (by omega) (fun i i0 i1 => by
    show q_b (F i ≠ -1) = q_b (F i ≠ -1 ∧ ¬ TK m k i) + q_b (Us m i ∧ nu m i < k)
    by_cases h1 : F i = -1
    · have nu' : ¬ Us m i := fun q => ((hF i i0 i1).mpr q).1 h1
      rw [q_bf (fun q => q h1), q_bf (fun q => q.1 h1), q_bf (fun q => nu' q.1)]
      rfl
    · by_cases h2 : Us m i ∧ nu m i < k
      · rw [q_bt h1, q_bf (fun q => q.2 (Or.inl h2)), q_bt h2]
        rfl
      · have nt : ¬ TK m k i := by
          rintro (q | ⟨q1, q2⟩)
          · exact h2 q
          · exact h1 (hH i q1 i1)
        rw [q_bt h1, q_bt ⟨h1, nt⟩, q_bf h2]
        rfl)
  have b := Us_cnt (k := k) I k0
  unfold rwl
  rw [a, b]
  omega
theorem mm_rowMany (C : MTk m F k s) : EV (d) 276 0 [.ref 285, .null, .null] [] (q_h L xs s O c) = some (.inl (some (.int (q_I (q_S (fun p => q_b (F p ≠ -1 ∧ ¬ TK m k p)) 0 48)))), q_h L xs (s) O c) := by
  have key := q_sm (fun j a => EV (d) 276 4 [.ref 285, .int (q_I (a)), .int (q_I (j))] [] (q_h L xs s O c)) (fun p => q_b (F p ≠ -1 ∧ ¬ TK m k p)) (lo := 0) (hi := 48) (by omega) (fun j a j0 j1 => by
    obtain ⟨-, c1, -⟩ := C
    obtain ⟨f1, t1⟩ := c1 j j0 j1
    show EV (d) 276 4 [.ref 285, .int (q_I (a)), .int (q_I (j))] [] (q_h L xs s O c) = EV (d) 276 4 [.ref 285, .int (q_I (a + q_b (F j ≠ -1 ∧ ¬ TK m k j))), .int (q_I (j + 1))] [] (q_h L xs s O c)
    rw [R_276_4 (x2 := j)]
    by_cases e1 : F j = -1
    · rw [q_bf (fun q => q.1 e1)]
      simp (disch := first | omega | exact q_b_01 _) only [↓reduceIte, q_bk0, q_bk1, q_bk2, q_sg_b, q_b_0, q_b_n0, q_b_1, q_b_n1, q_b_T, q_b_F, q_sg_g, q_sg_sg, q_sg_xs, q_sg_id, q_gu_ne, q_gu_eq, q_g_fne, q_g_cpe, q_w_f, q_v_f, q_u_f, q_fn_f, q_cp_f, q_sg_pg, q_sg_hc, q_lt_t, q_lt_f, q_le_t, q_le_f, q_eq_t, q_eq_f, ne_eq, eq_self, Bool.false_eq_true, Bool.true_eq_false, not_true_eq_false, not_false_eq_true, true_and, and_true, false_and, and_false, true_or, or_true, false_or, or_false, if_true, if_false, Int.reduceAdd, Int.reduceMul, Int.reduceSub, Int.reduceNeg, f1, e1, R_276_0, R_276_10, R_276_17, R_276_21, R_276_27, R_276_30, R_276_34, R_276_35, R_276_43]
    · have e1' : ¬ q_g s 303 j = -1 := by rw [f1]; exact e1
      by_cases e2 : TK m k j
      · rw [q_bf (fun q => q.2 e2)]
        rw [q_bt e2] at t1
        simp (disch := first | omega | exact q_b_01 _) only [↓reduceIte, q_bk0, q_bk1, q_bk2, q_sg_b, q_b_0, q_b_n0, q_b_1, q_b_n1, q_b_T, q_b_F, q_sg_g, q_sg_sg, q_sg_xs, q_sg_id, q_gu_ne, q_gu_eq, q_g_fne, q_g_cpe, q_w_f, q_v_f, q_u_f, q_fn_f, q_cp_f, q_sg_pg, q_sg_hc, q_lt_t, q_lt_f, q_le_t, q_le_f, q_eq_t, q_eq_f, ne_eq, eq_self, Bool.false_eq_true, Bool.true_eq_false, not_true_eq_false, not_false_eq_true, true_and, and_true, false_and, and_false, true_or, or_true, false_or, or_false, if_true, if_false, Int.reduceAdd, Int.reduceMul, Int.reduceSub, Int.reduceNeg, e1', t1, R_276_0, R_276_10, R_276_17, R_276_21, R_276_27, R_276_30, R_276_34, R_276_35, R_276_43]
      · rw [q_bt ⟨e1, e2⟩]
        rw [q_bf e2] at t1
        simp (disch := first | omega | exact q_b_01 _) only [↓reduceIte, q_bk0, q_bk1, q_bk2, q_sg_b, q_b_0, q_b_n0, q_b_1, q_b_n1, q_b_T, q_b_F, q_sg_g, q_sg_sg, q_sg_xs, q_sg_id, q_gu_ne, q_gu_eq, q_g_fne, q_g_cpe, q_w_f, q_v_f, q_u_f, q_fn_f, q_cp_f, q_sg_pg, q_sg_hc, q_lt_t, q_lt_f, q_le_t, q_le_f, q_eq_t, q_eq_f, ne_eq, eq_self, Bool.false_eq_true, Bool.true_eq_false, not_true_eq_false, not_false_eq_true, true_and, and_true, false_and, and_false, true_or, or_true, false_or, or_false, if_true, if_false, Int.reduceAdd, Int.reduceMul, Int.reduceSub, Int.reduceNeg, e1', t1, R_276_0, R_276_10, R_276_17, R_276_21, R_276_27, R_276_30, R_276_34, R_276_35, R_276_43])
  rw [R_276_0]
  refine key.trans ?_
  show EV (d) 276 4 [.ref 285, .int (q_I (q_S (fun p => q_b (F p ≠ -1 ∧ ¬ TK m k p)) 0 48)), .int (q_I (48))] [] (q_h L xs s O c) = _
  rw [R_276_4]
  simp (disch := first | omega | exact q_b_01 _) only [↓reduceIte, q_bk0, q_bk1, q_bk2, q_sg_b, q_b_0, q_b_n0, q_b_1, q_b_n1, q_b_T, q_b_F, q_sg_g, q_sg_sg, q_sg_xs, q_sg_id, q_gu_ne, q_gu_eq, q_g_fne, q_g_cpe, q_w_f, q_v_f, q_u_f, q_fn_f, q_cp_f, q_sg_pg, q_sg_hc, q_lt_t, q_lt_f, q_le_t, q_le_f, q_eq_t, q_eq_f, ne_eq, eq_self, Bool.false_eq_true, Bool.true_eq_false, not_true_eq_false, not_false_eq_true, true_and, and_true, false_and, and_false, true_or, or_true, false_or, or_false, if_true, if_false, Int.reduceAdd, Int.reduceMul, Int.reduceSub, Int.reduceNeg, R_276_0, R_276_10, R_276_17, R_276_21, R_276_27, R_276_30, R_276_34, R_276_35, R_276_43]
theorem mm_slipsC {n1 : Int} : ∀ (sl : List Int) {x : Int} (s : Nat → Int → Int32) (Lf : Int → Prop) (x3 x4 x5 x6 : Value), q_g s 286 = m → Chn m sl x → LfM s Lf → ∃ u x', EV (d + 1) 277 11 [.ref 285, .int (q_I (n1)), .int (q_I (x)), x3, x4, x5, x6] [] (q_h L xs s O c) = EV (d + 1) 277 33 [.ref 285, .int (q_I (n1)), .int (q_I (x')), x3, x4, x5, x6] [] (q_h L xs (u) O c) ∧ LfM u (fun z => Lf z ∨ z ∈ sl) ∧ ∀ k z, k ≠ 301 → u k z = s k z
  | [], x, s, Lf, x3, x4, x5, x6, em, hc, hl => by
    have e : x = -1 := hc
    subst e
    refine ⟨s, -1, ?_, LfM_iff hl (fun z => ⟨Or.inl, fun q => q.elim id (fun q => by simp at q)⟩), fun _ _ _ => rfl⟩
    rw [R_277_11]
    simp (disch := first | omega | exact q_b_01 _) only [↓reduceIte, q_bk0, q_bk1, q_bk2, q_sg_b, q_b_0, q_b_n0, q_b_1, q_b_n1, q_b_T, q_b_F, q_sg_g, q_sg_sg, q_sg_xs, q_sg_id, q_gu_ne, q_gu_eq, q_g_fne, q_g_cpe, q_w_f, q_v_f, q_u_f, q_fn_f, q_cp_f, q_sg_pg, q_sg_hc, q_lt_t, q_lt_f, q_le_t, q_le_f, q_eq_t, q_eq_f, ne_eq, eq_self, Bool.false_eq_true, Bool.true_eq_false, not_true_eq_false, not_false_eq_true, true_and, and_true, false_and, and_false, true_or, or_true, false_or, or_false, if_true, if_false, Int.reduceAdd, Int.reduceMul, Int.reduceSub, Int.reduceNeg]
  | y :: r, x, s, Lf, x3, x4, x5, x6, em, hc, hl => by
    obtain ⟨e, y0, y1, yk, hn⟩ := hc
    subst e
    have em' : q_g (q_u s 301 x 1) 286 = m := by rw [q_u_f (by omega)]; exact em
    have ho := mm_of (d := d) (L := L) (xs := xs) (s := q_u s 301 x 1) (O := O) (c := c) (p := x) (w := 3) (by omega) (by omega) (by omega) (by omega)
    rw [em'] at ho
    obtain ⟨u, x', u1, u2, u3⟩ := mm_slipsC r (q_u s 301 x 1) (fun z => Lf z ∨ z = x) x3 x4 x5 x6 em' hn (fun z z0 z1 => by
      obtain ⟨l1, l2⟩ := hl z z0 z1
      by_cases e : z = x
      · rw [q_gu_eq (by omega)]
        exact ⟨Or.inr rfl, fun _ => Or.inr e, fun _ => rfl⟩
      · rw [q_gu_ne (by omega)]
        exact ⟨l1, fun q => Or.inl (l2.mp q), fun q => l2.mpr (q.elim id (fun q => absurd q e))⟩)
    refine ⟨u, x', ?_, LfM_iff u2 (fun z => ⟨fun q => q.elim (fun q => q.elim Or.inl (fun q => Or.inr (by rw [q]; exact List.mem_cons_self ..))) (fun q => Or.inr (List.mem_cons_of_mem _ q)), fun q => q.elim (fun q => Or.inl (Or.inl q)) (fun q => (List.mem_cons.mp q).elim (fun q => Or.inl (Or.inr q)) Or.inr)⟩), fun k z hk => by rw [u3 k z hk, q_u_n (by omega)]⟩
    rw [← u1, R_277_11]
    simp (disch := first | omega | exact q_b_01 _) only [↓reduceIte, q_bk0, q_bk1, q_bk2, q_sg_b, q_b_0, q_b_n0, q_b_1, q_b_n1, q_b_T, q_b_F, q_sg_g, q_sg_sg, q_sg_xs, q_sg_id, q_gu_ne, q_gu_eq, q_g_fne, q_g_cpe, q_w_f, q_v_f, q_u_f, q_fn_f, q_cp_f, q_sg_pg, q_sg_hc, q_lt_t, q_lt_f, q_le_t, q_le_f, q_eq_t, q_eq_f, ne_eq, eq_self, Bool.false_eq_true, Bool.true_eq_false, not_true_eq_false, not_false_eq_true, true_and, and_true, false_and, and_false, true_or, or_true, false_or, or_false, if_true, if_false, Int.reduceAdd, Int.reduceMul, Int.reduceSub, Int.reduceNeg, ho, R_277_0, R_277_5, R_277_10, R_277_16, R_277_23, R_277_29, R_277_35, R_277_41, R_277_47, R_277_50, R_277_57, R_277_63, R_277_68, R_277_75, R_277_79, R_277_89, R_277_101, R_277_102, R_277_112, R_277_115, R_277_120, R_277_129, R_277_138, R_277_151, R_277_161, R_277_180, R_277_189, R_277_192, R_277_193, R_277_194, R_277_197, R_277_204, R_277_210, R_277_216, R_277_220, R_277_226, R_277_229, R_277_235, R_277_252, R_277_256, R_277_257, R_277_258, R_277_276, R_277_282, R_277_285, R_277_286, R_277_287, R_277_297, R_277_303, R_277_307, R_277_308, R_277_310, R_277_318, R_277_325, R_277_331, C_277_2, C_277_7, C_277_26, C_277_76, C_277_98, C_277_315]
/-- what is left is free from now on -/
theorem mm_slipsA (hN : -2147483648 ≤ hc m 0 + 1) (hN' : hc m 0 + 1 < 2147483648) (C : MTk m (fr0 m) k s) (hl : LfM s (fun z => Lf z ∨ z ∈ SLs m)) {x2 : Int} {x4 x5 x6 : Value} : ∃ u, EV (d) 277 35 [.ref 285, .int (q_I (hc m 0 + 1)), .int (q_I (x2)), .int (q_I (0)), x4, x5, x6] [] (q_h L xs s O c) = EV (d) 277 63 [.ref 285, .int (q_I (hc m 0 + 1)), .int (q_I (x2)), .int (q_I (48)), x4, x5, x6] [] (q_h L xs (u) O c) ∧ MTk m (frN m Lf) k u ∧ ∀ k z, k ≠ 303 → u k z = s k z := by
  obtain ⟨em, c1, c2, c3⟩ := C
  obtain ⟨u, u1, u2, u3⟩ := q_for (fun j t => EV (d) 277 35 [.ref 285, .int (q_I (hc m 0 + 1)), .int (q_I (x2)), .int (q_I (j)), x4, x5, x6] [] (q_h L xs (t) O c)) (fun j t => (∀ p, 0 ≤ p → p < 48 → q_g t 303 p = if p < j then frN m Lf p else fr0 m p) ∧ ∀ k z, k ≠ 303 → t k z = s k z) (lo := 0) (hi := 48) (by omega) (fun j t j0 j1 P => by
      obtain ⟨P1, P2⟩ := P
      have e01 : q_g t 301 j = q_g s 301 j := by
        show (t 301 j).toInt = _
        rw [P2 301 j (by omega)]
        rfl
      obtain ⟨l1, l2⟩ := hl j j0 j1
      by_cases h : Lf j ∨ j ∈ SLs m
      · have lj : q_g s 301 j = 1 := l2.mpr h
        refine ⟨q_u t 303 j (hc m 0 + 1), ?_, fun p p0 p1 => ?_, fun k z hk => by rw [q_u_n (by omega), P2 k z hk]⟩
        · show EV (d) 277 35 [.ref 285, .int (q_I (hc m 0 + 1)), .int (q_I (x2)), .int (q_I (j)), x4, x5, x6] [] (q_h L xs (t) O c) = EV (d) 277 35 [.ref 285, .int (q_I (hc m 0 + 1)), .int (q_I (x2)), .int (q_I (j + 1)), x4, x5, x6] [] (q_h L xs (q_u t 303 j (hc m 0 + 1)) O c)
          rw [R_277_35 (x3 := j)]
          simp (disch := first | omega | exact q_b_01 _) only [↓reduceIte, q_bk0, q_bk1, q_bk2, q_sg_b, q_b_0, q_b_n0, q_b_1, q_b_n1, q_b_T, q_b_F, q_sg_g, q_sg_sg, q_sg_xs, q_sg_id, q_gu_ne, q_gu_eq, q_g_fne, q_g_cpe, q_w_f, q_v_f, q_u_f, q_fn_f, q_cp_f, q_sg_pg, q_sg_hc, q_lt_t, q_lt_f, q_le_t, q_le_f, q_eq_t, q_eq_f, ne_eq, eq_self, Bool.false_eq_true, Bool.true_eq_false, not_true_eq_false, not_false_eq_true, true_and, and_true, false_and, and_false, true_or, or_true, false_or, or_false, if_true, if_false, Int.reduceAdd, Int.reduceMul, Int.reduceSub, Int.reduceNeg, e01, lj, R_277_0, R_277_5, R_277_10, R_277_11, R_277_16, R_277_23, R_277_29, R_277_33, R_277_41, R_277_47, R_277_50, R_277_57, R_277_63, R_277_68, R_277_75, R_277_79, R_277_89, R_277_101, R_277_102, R_277_112, R_277_115, R_277_120, R_277_129, R_277_138, R_277_151, R_277_161, R_277_180, R_277_189, R_277_192, R_277_193, R_277_194, R_277_197, R_277_204, R_277_210, R_277_216, R_277_220, R_277_226, R_277_229, R_277_235, R_277_252, R_277_256, R_277_257, R_277_258, R_277_276, R_277_282, R_277_285, R_277_286, R_277_287, R_277_297, R_277_303, R_277_307, R_277_308, R_277_310, R_277_318, R_277_325, R_277_331, C_277_2, C_277_7, C_277_26, C_277_76, C_277_98, C_277_315]
        · by_cases e : p = j
          · rw [q_gu_eq (by omega), if_pos (by omega), e, frN_y h, q_sg_id hN hN']
          · rw [q_gu_ne (by omega), P1 p p0 p1]
            by_cases e' : p < j
            · rw [if_pos e', if_pos (show p < j + 1 by omega)]
            · rw [if_neg e', if_neg (show ¬ p < j + 1 by omega)]
      · have lj : q_g s 301 j = 0 := l1.elim id (fun q => absurd (l2.mp q) h)
        refine ⟨t, ?_, fun p p0 p1 => ?_, P2⟩
        · show EV (d) 277 35 [.ref 285, .int (q_I (hc m 0 + 1)), .int (q_I (x2)), .int (q_I (j)), x4, x5, x6] [] (q_h L xs (t) O c) = EV (d) 277 35 [.ref 285, .int (q_I (hc m 0 + 1)), .int (q_I (x2)), .int (q_I (j + 1)), x4, x5, x6] [] (q_h L xs (t) O c)
          rw [R_277_35 (x3 := j)]
          simp (disch := first | omega | exact q_b_01 _) only [↓reduceIte, q_bk0, q_bk1, q_bk2, q_sg_b, q_b_0, q_b_n0, q_b_1, q_b_n1, q_b_T, q_b_F, q_sg_g, q_sg_sg, q_sg_xs, q_sg_id, q_gu_ne, q_gu_eq, q_g_fne, q_g_cpe, q_w_f, q_v_f, q_u_f, q_fn_f, q_cp_f, q_sg_pg, q_sg_hc, q_lt_t, q_lt_f, q_le_t, q_le_f, q_eq_t, q_eq_f, ne_eq, eq_self, Bool.false_eq_true, Bool.true_eq_false, not_true_eq_false, not_false_eq_true, true_and, and_true, false_and, and_false, true_or, or_true, false_or, or_false, if_true, if_false, Int.reduceAdd, Int.reduceMul, Int.reduceSub, Int.reduceNeg, e01, lj, R_277_0, R_277_5, R_277_10, R_277_11, R_277_16, R_277_23, R_277_29, R_277_33, R_277_41, R_277_47, R_277_50, R_277_57, R_277_63, R_277_68, R_277_75, R_277_79, R_277_89, R_277_101, R_277_102, R_277_112, R_277_115, R_277_120, R_277_129, R_277_138, R_277_151, R_277_161, R_277_180, R_277_189, R_277_192, R_277_193, R_277_194, R_277_197, R_277_204, R_277_210, R_277_216, R_277_220, R_277_226, R_277_229, R_277_235, R_277_252, R_277_256, R_277_257, R_277_258, R_277_276, R_277_282, R_277_285, R_277_286, R_277_287, R_277_297, R_277_303, R_277_307, R_277_308, R_277_310, R_277_318, R_277_325, R_277_331, C_277_2, C_277_7, C_277_26, C_277_76, C_277_98, C_277_315]
        · rw [P1 p p0 p1]
          by_cases e : p = j
          · rw [e, if_neg (by omega), if_pos (by omega), frN_n h]
          · by_cases e' : p < j
            · rw [if_pos e', if_pos (show p < j + 1 by omega)]
            · rw [if_neg e', if_neg (show ¬ p < j + 1 by omega)]) (t := s) ⟨fun p p0 p1 => by rw [if_neg (by omega)]; exact (c1 p p0 p1).1, fun _ _ _ => rfl⟩
  have g : ∀ k z, k ≠ 303 → q_g u k z = q_g s k z := fun k z hk => by
    show (u k z).toInt = _
    rw [u3 k z hk]
    rfl
  refine ⟨u, ?_, ⟨?_, fun p p0 p1 => ⟨by rw [u2 p p0 p1, if_pos p1], by rw [g 302 p (by omega)]; exact (c1 p p0 p1).2⟩, by rw [g 285 35 (by omega)]; exact c2, by rw [g 285 36 (by omega)]; exact c3⟩, u3⟩
  · refine u1.trans ?_
    show EV (d) 277 35 [.ref 285, .int (q_I (hc m 0 + 1)), .int (q_I (x2)), .int (q_I (48)), x4, x5, x6] [] (q_h L xs (u) O c) = _
    rw [R_277_35]
    simp (disch := first | omega | exact q_b_01 _) only [↓reduceIte, q_bk0, q_bk1, q_bk2, q_sg_b, q_b_0, q_b_n0, q_b_1, q_b_n1, q_b_T, q_b_F, q_sg_g, q_sg_sg, q_sg_xs, q_sg_id, q_gu_ne, q_gu_eq, q_g_fne, q_g_cpe, q_w_f, q_v_f, q_u_f, q_fn_f, q_cp_f, q_sg_pg, q_sg_hc, q_lt_t, q_lt_f, q_le_t, q_le_f, q_eq_t, q_eq_f, ne_eq, eq_self, Bool.false_eq_true, Bool.true_eq_false, not_true_eq_false, not_false_eq_true, true_and, and_true, false_and, and_false, true_or, or_true, false_or, or_false, if_true, if_false, Int.reduceAdd, Int.reduceMul, Int.reduceSub, Int.reduceNeg]
  · rw [← em]
    exact funext fun z => g 286 z (by omega)
noncomputable def SMl (m F : Int → Int) (kN : Int) (s : Nat → Int → Int32) (i : Int) (u : Nat → Int → Int32) : Prop :=
  MTk m F (kN + i) u ∧ q_g u 285 34 = i ∧ (∀ j, 0 ≤ j → j < i → q_g u 304 j = tp m (kN + j)) ∧ ∀ k z, ¬ (k = 285 ∧ (z = 34 ∨ z = 35 ∨ z = 36)) → k ≠ 302 → k ≠ 304 → u k z = s k z
theorem mm_slipsL (I : TkI m) (hF : FuI m F) (hH : ∀ p, hc m 3 ≤ p → p < 48 → F p = -1) (k0 : 0 ≤ kN) (S : ScI m F kN sc) {n1 x2 x3 : Int} {x4 x5 x6 : Value} : ∀ (f : Nat) (i : Int) (w : Nat → Int → Int32), sc - i = f → 0 ≤ i → SMl m F kN s i w → kN + i ≤ cap m → (kN + sc ≤ cap m → ∃ u, EV (d + 5) 277 68 [.ref 285, .int (q_I (n1)), .int (q_I (x2)), .int (q_I (x3)), x4, x5, x6] [] (q_h L xs (w) O c) = EV (d + 5) 277 115 [.ref 285, .int (q_I (n1)), .int (q_I (x2)), .int (q_I (x3)), x4, x5, x6] [] (q_h L xs (u) O c) ∧ SMl m F kN s sc u) ∧ (cap m < kN + sc → ∃ u, EV (d + 5) 277 68 [.ref 285, .int (q_I (n1)), .int (q_I (x2)), .int (q_I (x3)), x4, x5, x6] [] (q_h L xs (w) O c) = EV (d + 5) 277 115 [.ref 285, .int (q_I (n1)), .int (q_I (x2)), .int (q_I (x3)), x4, x5, x6] [] (q_h L xs (u) O c) ∧ q_g u 285 36 = 1 ∧ (0 ≤ q_g u 285 34 ∧ q_g u 285 34 ≤ 9) ∧ (∀ j, 0 ≤ j → j < q_g u 285 34 → 0 ≤ q_g u 304 j ∧ q_g u 304 j < 48) ∧ ∀ k z, ¬ (k = 285 ∧ (z = 34 ∨ z = 35 ∨ z = 36)) → k ≠ 302 → k ≠ 304 → u k z = s k z)
  | 0, i, w, hf, i0, P, kc => by
    have e : i = sc := by omega
    subst e
    have r := S.2.2.2
    have s8 := S.2.1
    have rm := mm_rowMany (d := d + 4) (L := L) (xs := xs) (O := O) (c := c) P.1
    rw [rw_cnt I hF hH (by omega)] at rm
    have rr : 0 ≤ rwl m F (kN + i) := by
      rw [← rw_cnt I hF hH (by omega)]
      exact (cnP_rg (P := fun p => F p ≠ -1 ∧ ¬ TK m (kN + i) p) (p := 48) (by omega)).1
    refine ⟨fun _ => ⟨w, ?_, P⟩, fun h => by omega⟩
    rw [R_277_68]
    simp (disch := first | omega | exact q_b_01 _) only [↓reduceIte, q_bk0, q_bk1, q_bk2, q_sg_b, q_b_0, q_b_n0, q_b_1, q_b_n1, q_b_T, q_b_F, q_sg_g, q_sg_sg, q_sg_xs, q_sg_id, q_gu_ne, q_gu_eq, q_g_fne, q_g_cpe, q_w_f, q_v_f, q_u_f, q_fn_f, q_cp_f, q_sg_pg, q_sg_hc, q_lt_t, q_lt_f, q_le_t, q_le_f, q_eq_t, q_eq_f, ne_eq, eq_self, Bool.false_eq_true, Bool.true_eq_false, not_true_eq_false, not_false_eq_true, true_and, and_true, false_and, and_false, true_or, or_true, false_or, or_false, if_true, if_false, Int.reduceAdd, Int.reduceMul, Int.reduceSub, Int.reduceNeg, P.1.2.2.2, P.2.1, rm, R_277_0, R_277_5, R_277_10, R_277_11, R_277_16, R_277_23, R_277_29, R_277_33, R_277_35, R_277_41, R_277_47, R_277_50, R_277_57, R_277_63, R_277_75, R_277_79, R_277_89, R_277_101, R_277_102, R_277_112, R_277_120, R_277_129, R_277_138, R_277_151, R_277_161, R_277_180, R_277_189, R_277_192, R_277_193, R_277_194, R_277_197, R_277_204, R_277_210, R_277_216, R_277_220, R_277_226, R_277_229, R_277_235, R_277_252, R_277_256, R_277_257, R_277_258, R_277_276, R_277_282, R_277_285, R_277_286, R_277_287, R_277_297, R_277_303, R_277_307, R_277_308, R_277_310, R_277_318, R_277_325, R_277_331, C_277_2, C_277_7, C_277_26, C_277_76, C_277_98, C_277_315]
  | f + 1, i, w, hf, i0, P, kc => by
    obtain ⟨p1, p2, p3, p5⟩ := id P
    have r := S.2.2.1 i i0 (by omega)
    have s8 := S.2.1
    have rm := mm_rowMany (d := d + 4) (L := L) (xs := xs) (O := O) (c := c) P.1
    rw [rw_cnt I hF hH (by omega)] at rm
    have rr := rwl_rg (m := m) (F := F) (k := kN + i) (by omega)
    obtain ⟨t1, t2⟩ := mm_takes (d := d) (L := L) (xs := xs) (O := O) (c := c) I hF p1 (by omega) kc
    have f36 := p1.2.2.2
    by_cases kk : kN + i < cap m
    · obtain ⟨v, v1, v2, v3⟩ := t1 kk
      have tr := tp_rg I (show 0 ≤ kN + i by omega) kk
      have g5 : q_g v 285 34 = i := by
        show (v 285 34).toInt = i
        rw [v3 285 34 (by omega) (by omega)]
        exact p2
      have P' : SMl m F kN s (i + 1) (q_u (q_u v 304 i (tp m (kN + i))) 285 34 (i + 1)) := by
        refine ⟨?_, by rw [q_gu_eq rfl, q_sg_id (by omega) (by omega)], fun j j0 j1 => ?_, fun k z h1 h2 h3 => by rw [q_u_n (by omega), q_u_n (by omega), v3 k z (by omega) h2, p5 k z h1 h2 h3]⟩
        · rw [← Int.add_assoc]
          obtain ⟨c1, c2, c3, c4⟩ := v2
          exact ⟨by rw [q_u_f (by omega), q_u_f (by omega)]; exact c1, fun p p0 p1 => by rw [q_gu_ne (by omega), q_gu_ne (by omega), q_gu_ne (by omega), q_gu_ne (by omega)]; exact c2 p p0 p1, by rw [q_gu_ne (by omega), q_gu_ne (by omega)]; exact c3, by rw [q_gu_ne (by omega), q_gu_ne (by omega)]; exact c4⟩
        · by_cases e : j = i
          · subst e
            rw [q_gu_ne (by omega), q_gu_eq rfl, q_sg_id (by omega) (by omega)]
          · rw [q_gu_ne (by omega), q_gu_ne (by omega)]
            show (v 304 j).toInt = _
            rw [v3 304 j (by omega) (by omega)]
            exact p3 j j0 (by omega)
      obtain ⟨j1, j2⟩ := mm_slipsL I hF hH k0 S f (i + 1) _ (by omega) (by omega) P' (by omega)
      refine ⟨fun h => ?_, fun h => ?_⟩
      · obtain ⟨u, u1, u2⟩ := j1 h
        refine ⟨u, ?_, u2⟩
        rw [R_277_68]
        simp (disch := first | omega | exact q_b_01 _) only [↓reduceIte, q_bk0, q_bk1, q_bk2, q_sg_b, q_b_0, q_b_n0, q_b_1, q_b_n1, q_b_T, q_b_F, q_sg_g, q_sg_sg, q_sg_xs, q_sg_id, q_gu_ne, q_gu_eq, q_g_fne, q_g_cpe, q_w_f, q_v_f, q_u_f, q_fn_f, q_cp_f, q_sg_pg, q_sg_hc, q_lt_t, q_lt_f, q_le_t, q_le_f, q_eq_t, q_eq_f, ne_eq, eq_self, Bool.false_eq_true, Bool.true_eq_false, not_true_eq_false, not_false_eq_true, true_and, and_true, false_and, and_false, true_or, or_true, false_or, or_false, if_true, if_false, Int.reduceAdd, Int.reduceMul, Int.reduceSub, Int.reduceNeg, f36, p2, rm, v1, g5, R_277_0, R_277_5, R_277_10, R_277_11, R_277_16, R_277_23, R_277_29, R_277_33, R_277_35, R_277_41, R_277_47, R_277_50, R_277_57, R_277_63, R_277_75, R_277_79, R_277_89, R_277_101, R_277_102, R_277_112, R_277_120, R_277_129, R_277_138, R_277_151, R_277_161, R_277_180, R_277_189, R_277_192, R_277_193, R_277_194, R_277_197, R_277_204, R_277_210, R_277_216, R_277_220, R_277_226, R_277_229, R_277_235, R_277_252, R_277_256, R_277_257, R_277_258, R_277_276, R_277_282, R_277_285, R_277_286, R_277_287, R_277_297, R_277_303, R_277_307, R_277_308, R_277_310, R_277_318, R_277_325, R_277_331, C_277_2, C_277_7, C_277_26, C_277_76, C_277_98, C_277_315]
        exact u1
      · obtain ⟨u, u1, u2⟩ := j2 h
        refine ⟨u, ?_, u2⟩
        rw [R_277_68]
        simp (disch := first | omega | exact q_b_01 _) only [↓reduceIte, q_bk0, q_bk1, q_bk2, q_sg_b, q_b_0, q_b_n0, q_b_1, q_b_n1, q_b_T, q_b_F, q_sg_g, q_sg_sg, q_sg_xs, q_sg_id, q_gu_ne, q_gu_eq, q_g_fne, q_g_cpe, q_w_f, q_v_f, q_u_f, q_fn_f, q_cp_f, q_sg_pg, q_sg_hc, q_lt_t, q_lt_f, q_le_t, q_le_f, q_eq_t, q_eq_f, ne_eq, eq_self, Bool.false_eq_true, Bool.true_eq_false, not_true_eq_false, not_false_eq_true, true_and, and_true, false_and, and_false, true_or, or_true, false_or, or_false, if_true, if_false, Int.reduceAdd, Int.reduceMul, Int.reduceSub, Int.reduceNeg, f36, p2, rm, v1, g5, R_277_0, R_277_5, R_277_10, R_277_11, R_277_16, R_277_23, R_277_29, R_277_33, R_277_35, R_277_41, R_277_47, R_277_50, R_277_57, R_277_63, R_277_75, R_277_79, R_277_89, R_277_101, R_277_102, R_277_112, R_277_120, R_277_129, R_277_138, R_277_151, R_277_161, R_277_180, R_277_189, R_277_192, R_277_193, R_277_194, R_277_197, R_277_204, R_277_210, R_277_216, R_277_220, R_277_226, R_277_229, R_277_235, R_277_252, R_277_256, R_277_257, R_277_258, R_277_276, R_277_282, R_277_285, R_277_286, R_277_287, R_277_297, R_277_303, R_277_307, R_277_308, R_277_310, R_277_318, R_277_325, R_277_331, C_277_2, C_277_7, C_277_26, C_277_76, C_277_98, C_277_315]
        exact u1
    · obtain ⟨v, v1, v2, v3⟩ := t2 (by omega)
      have g5 : q_g v 285 34 = i := by
        show (v 285 34).toInt = i
        rw [v3 285 34 (by omega) (by omega)]
        exact p2
      have g36 : q_g (q_u (q_u v 304 i 0) 285 34 (i + 1)) 285 36 = 1 := by rw [q_gu_ne (by omega), q_gu_ne (by omega), v2]
      have g34 : q_g (q_u (q_u v 304 i 0) 285 34 (i + 1)) 285 34 = i + 1 := by rw [q_gu_eq rfl, q_sg_id (by omega) (by omega)]
      refine ⟨fun h => by omega, fun h => ⟨q_u (q_u v 304 i 0) 285 34 (i + 1), ?_, g36, by omega, fun j j0 j1 => ?_, fun k z h1 h2 h3 => by rw [q_u_n (by omega), q_u_n (by omega), v3 k z (by omega) h2, p5 k z h1 h2 h3]⟩⟩
      · rw [R_277_68]
        simp (disch := first | omega | exact q_b_01 _) only [↓reduceIte, q_bk0, q_bk1, q_bk2, q_sg_b, q_b_0, q_b_n0, q_b_1, q_b_n1, q_b_T, q_b_F, q_sg_g, q_sg_sg, q_sg_xs, q_sg_id, q_gu_ne, q_gu_eq, q_g_fne, q_g_cpe, q_w_f, q_v_f, q_u_f, q_fn_f, q_cp_f, q_sg_pg, q_sg_hc, q_lt_t, q_lt_f, q_le_t, q_le_f, q_eq_t, q_eq_f, ne_eq, eq_self, Bool.false_eq_true, Bool.true_eq_false, not_true_eq_false, not_false_eq_true, true_and, and_true, false_and, and_false, true_or, or_true, false_or, or_false, if_true, if_false, Int.reduceAdd, Int.reduceMul, Int.reduceSub, Int.reduceNeg, f36, p2, rm, v1, g5, R_277_0, R_277_5, R_277_10, R_277_11, R_277_16, R_277_23, R_277_29, R_277_33, R_277_35, R_277_41, R_277_47, R_277_50, R_277_57, R_277_63, R_277_75, R_277_79, R_277_89, R_277_101, R_277_102, R_277_112, R_277_120, R_277_129, R_277_138, R_277_151, R_277_161, R_277_180, R_277_189, R_277_192, R_277_193, R_277_194, R_277_197, R_277_204, R_277_210, R_277_216, R_277_220, R_277_226, R_277_229, R_277_235, R_277_252, R_277_256, R_277_257, R_277_258, R_277_276, R_277_282, R_277_285, R_277_286, R_277_287, R_277_297, R_277_303, R_277_307, R_277_308, R_277_310, R_277_318, R_277_325, R_277_331, C_277_2, C_277_7, C_277_26, C_277_76, C_277_98, C_277_315]
        rw [R_277_68]
        simp (disch := first | omega | exact q_b_01 _) only [↓reduceIte, q_bk0, q_bk1, q_bk2, q_sg_b, q_b_0, q_b_n0, q_b_1, q_b_n1, q_b_T, q_b_F, q_sg_g, q_sg_sg, q_sg_xs, q_sg_id, q_gu_ne, q_gu_eq, q_g_fne, q_g_cpe, q_w_f, q_v_f, q_u_f, q_fn_f, q_cp_f, q_sg_pg, q_sg_hc, q_lt_t, q_lt_f, q_le_t, q_le_f, q_eq_t, q_eq_f, ne_eq, eq_self, Bool.false_eq_true, Bool.true_eq_false, not_true_eq_false, not_false_eq_true, true_and, and_true, false_and, and_false, true_or, or_true, false_or, or_false, if_true, if_false, Int.reduceAdd, Int.reduceMul, Int.reduceSub, Int.reduceNeg, g36]
      · by_cases e : j = i
        · subst e
          rw [q_gu_ne (by omega), q_gu_eq rfl]
          exact ⟨by decide, by decide⟩
        · rw [q_gu_ne (by omega), q_gu_ne (by omega)]
          have : q_g v 304 j = tp m (kN + j) := by
            show (v 304 j).toInt = _
            rw [v3 304 j (by omega) (by omega)]
            exact p3 j j0 (by omega)
          have := tp_rg I (show 0 ≤ kN + j by omega) (by omega)
          omega
end MSL
