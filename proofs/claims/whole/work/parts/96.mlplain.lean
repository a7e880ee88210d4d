/-! THE REFERENCE: what is compared in a law -/
section MLP
variable {d L : Nat} {xs : Nat → Int32} {s t u : Nat → Int → Int32} {O : Nat → Int64} {c : Bool × Nat × Nat} {T : Int → Int} {E b e : Int} {i : Nat} {F : Int → Int}
abbrev B01 (v : Int) : Prop := v = 0 ∨ v = 1
theorem B01_b (p : Prop) [Decidable p] : B01 (q_b p) := by
  unfold q_b
  split
  · exact Or.inr rfl
  · exact Or.inl rfl
theorem Gd_sg {l : List Int} {v : Int} {m : Nat} (hR : Rg F) (h : Gd F l v m) (hl : l.length ≤ 400) : q_sg v = v := by
  have := Gd_rg hR h
  exact q_sg_id (by omega) (by omega)
/-- behind the first sum, at a sign -/
theorem mm_cmp2 {v1 : Int} {l1 : List Int} (less : Bool) (H : TX T E) (hf : Fc F s) (hs : MS T E (bs T E i) s) (i0 : Nat) (hg : Ge F l1 v1 2) (h1 : 1 ≤ l1.length) (hl : (l1.length : Int) + 1 + bs T E i0 ≤ bs T E i) (b0 : 0 ≤ bs T E i0) : MSp T E F 0 3 i0 B01 s (pb (pSum T E i) (fun i2 l2 => .inr (i2, l1 ++ l2 ++ [if less = true then 4001 else 4002]))) (fun w t => EV (d + 12) 246 132 [.ref 285, .int (q_I (v1)), .int (q_I ((if less = true then 1 else 0))), .null] [.ref 285] (q_h L xs s O c) = some (.inl (some (.int (q_I (w)))), q_h L xs (t) O c)) := by
  have k := mm_amount (d := d) (L := L) (xs := xs) (O := O) (c := c) (i := i) H hf hs (by omega)
  have hE := H.2.1
  cases hp : pSum T E i with
  | inl e =>
    rw [hp] at k
    obtain ⟨t, w, a1, -, a2, a3⟩ := k
    refine ⟨t, if less = true then q_b (q_sg v1 < q_sg w) else q_b (q_sg w < q_sg v1), ?_, ?_, a2, a3⟩
    · cases less
      · rw [if_neg (by decide), if_neg (by decide)]
        by_cases cc : q_sg w < q_sg v1
        · simp (disch := first | omega | exact q_b_01 _) only [↓reduceIte, q_bk0, q_bk1, q_bk2, q_sg_b, q_b_0, q_b_n0, q_b_1, q_b_n1, q_b_T, q_b_F, q_sg_g, q_sg_sg, q_sg_xs, q_sg_id, q_gu_ne, q_gu_eq, q_g_fne, q_g_cpe, q_w_f, q_v_f, q_u_f, q_fn_f, q_cp_f, q_sg_pg, q_sg_hc, q_lt_t, q_lt_f, q_le_t, q_le_f, q_eq_t, q_eq_f, ne_eq, eq_self, Bool.false_eq_true, Bool.true_eq_false, not_true_eq_false, not_false_eq_true, true_and, and_true, false_and, and_false, true_or, or_true, false_or, or_false, if_true, if_false, Int.reduceAdd, Int.reduceMul, Int.reduceSub, Int.reduceNeg, a1, cc, R_246_0, R_246_6, R_246_9, R_246_15, R_246_19, R_246_23, R_246_24, R_246_25, R_246_31, R_246_34, R_246_40, R_246_44, R_246_48, R_246_49, R_246_50, R_246_56, R_246_59, R_246_65, R_246_67, R_246_70, R_246_74, R_246_75, R_246_76, R_246_80, R_246_89, R_246_91, R_246_97, R_246_102, R_246_108, R_246_111, R_246_119, R_246_121, R_246_131, R_246_135, R_246_140, R_246_145, R_246_149, R_246_153, R_246_158, R_246_162, R_246_163, C_246_3, C_246_28, C_246_53, C_246_77, C_246_94, C_246_105, C_246_116, C_246_132]
        · simp (disch := first | omega | exact q_b_01 _) only [↓reduceIte, q_bk0, q_bk1, q_bk2, q_sg_b, q_b_0, q_b_n0, q_b_1, q_b_n1, q_b_T, q_b_F, q_sg_g, q_sg_sg, q_sg_xs, q_sg_id, q_gu_ne, q_gu_eq, q_g_fne, q_g_cpe, q_w_f, q_v_f, q_u_f, q_fn_f, q_cp_f, q_sg_pg, q_sg_hc, q_lt_t, q_lt_f, q_le_t, q_le_f, q_eq_t, q_eq_f, ne_eq, eq_self, Bool.false_eq_true, Bool.true_eq_false, not_true_eq_false, not_false_eq_true, true_and, and_true, false_and, and_false, true_or, or_true, false_or, or_false, if_true, if_false, Int.reduceAdd, Int.reduceMul, Int.reduceSub, Int.reduceNeg, a1, cc, R_246_0, R_246_6, R_246_9, R_246_15, R_246_19, R_246_23, R_246_24, R_246_25, R_246_31, R_246_34, R_246_40, R_246_44, R_246_48, R_246_49, R_246_50, R_246_56, R_246_59, R_246_65, R_246_67, R_246_70, R_246_74, R_246_75, R_246_76, R_246_80, R_246_89, R_246_91, R_246_97, R_246_102, R_246_108, R_246_111, R_246_119, R_246_121, R_246_131, R_246_135, R_246_140, R_246_145, R_246_149, R_246_153, R_246_158, R_246_162, R_246_163, C_246_3, C_246_28, C_246_53, C_246_77, C_246_94, C_246_105, C_246_116, C_246_132]
      · rw [if_pos rfl, if_pos rfl]
        by_cases cc : q_sg v1 < q_sg w
        · simp (disch := first | omega | exact q_b_01 _) only [↓reduceIte, q_bk0, q_bk1, q_bk2, q_sg_b, q_b_0, q_b_n0, q_b_1, q_b_n1, q_b_T, q_b_F, q_sg_g, q_sg_sg, q_sg_xs, q_sg_id, q_gu_ne, q_gu_eq, q_g_fne, q_g_cpe, q_w_f, q_v_f, q_u_f, q_fn_f, q_cp_f, q_sg_pg, q_sg_hc, q_lt_t, q_lt_f, q_le_t, q_le_f, q_eq_t, q_eq_f, ne_eq, eq_self, Bool.false_eq_true, Bool.true_eq_false, not_true_eq_false, not_false_eq_true, true_and, and_true, false_and, and_false, true_or, or_true, false_or, or_false, if_true, if_false, Int.reduceAdd, Int.reduceMul, Int.reduceSub, Int.reduceNeg, a1, cc, R_246_0, R_246_6, R_246_9, R_246_15, R_246_19, R_246_23, R_246_24, R_246_25, R_246_31, R_246_34, R_246_40, R_246_44, R_246_48, R_246_49, R_246_50, R_246_56, R_246_59, R_246_65, R_246_67, R_246_70, R_246_74, R_246_75, R_246_76, R_246_80, R_246_89, R_246_91, R_246_97, R_246_102, R_246_108, R_246_111, R_246_119, R_246_121, R_246_131, R_246_135, R_246_140, R_246_145, R_246_149, R_246_153, R_246_158, R_246_162, R_246_163, C_246_3, C_246_28, C_246_53, C_246_77, C_246_94, C_246_105, C_246_116, C_246_132]
        · simp (disch := first | omega | exact q_b_01 _) only [↓reduceIte, q_bk0, q_bk1, q_bk2, q_sg_b, q_b_0, q_b_n0, q_b_1, q_b_n1, q_b_T, q_b_F, q_sg_g, q_sg_sg, q_sg_xs, q_sg_id, q_gu_ne, q_gu_eq, q_g_fne, q_g_cpe, q_w_f, q_v_f, q_u_f, q_fn_f, q_cp_f, q_sg_pg, q_sg_hc, q_lt_t, q_lt_f, q_le_t, q_le_f, q_eq_t, q_eq_f, ne_eq, eq_self, Bool.false_eq_true, Bool.true_eq_false, not_true_eq_false, not_false_eq_true, true_and, and_true, false_and, and_false, true_or, or_true, false_or, or_false, if_true, if_false, Int.reduceAdd, Int.reduceMul, Int.reduceSub, Int.reduceNeg, a1, cc, R_246_0, R_246_6, R_246_9, R_246_15, R_246_19, R_246_23, R_246_24, R_246_25, R_246_31, R_246_34, R_246_40, R_246_44, R_246_48, R_246_49, R_246_50, R_246_56, R_246_59, R_246_65, R_246_67, R_246_70, R_246_74, R_246_75, R_246_76, R_246_80, R_246_89, R_246_91, R_246_97, R_246_102, R_246_108, R_246_111, R_246_119, R_246_121, R_246_131, R_246_135, R_246_140, R_246_145, R_246_149, R_246_153, R_246_158, R_246_162, R_246_163, C_246_3, C_246_28, C_246_53, C_246_77, C_246_94, C_246_105, C_246_116, C_246_132]
    · split <;> exact B01_b _
  | inr p =>
    rw [hp] at k
    obtain ⟨i', q⟩ := p
    obtain ⟨t, w, a1, -, a2, a3, a4, a5, a6⟩ := k
    have a5' : (q.length : Int) + bs T E i ≤ bs T E i' := a5
    have a4' : 1 ≤ q.length := a4
    have le : bs T E i' ≤ E := MS_le H a2
    refine ⟨t, if less = true then q_b (q_sg v1 < q_sg w) else q_b (q_sg w < q_sg v1), ?_, ?_, a2, fun hR => ?_, ?_, ?_, a6⟩
    · cases less
      · rw [if_neg (by decide), if_neg (by decide)]
        by_cases cc : q_sg w < q_sg v1
        · simp (disch := first | omega | exact q_b_01 _) only [↓reduceIte, q_bk0, q_bk1, q_bk2, q_sg_b, q_b_0, q_b_n0, q_b_1, q_b_n1, q_b_T, q_b_F, q_sg_g, q_sg_sg, q_sg_xs, q_sg_id, q_gu_ne, q_gu_eq, q_g_fne, q_g_cpe, q_w_f, q_v_f, q_u_f, q_fn_f, q_cp_f, q_sg_pg, q_sg_hc, q_lt_t, q_lt_f, q_le_t, q_le_f, q_eq_t, q_eq_f, ne_eq, eq_self, Bool.false_eq_true, Bool.true_eq_false, not_true_eq_false, not_false_eq_true, true_and, and_true, false_and, and_false, true_or, or_true, false_or, or_false, if_true, if_false, Int.reduceAdd, Int.reduceMul, Int.reduceSub, Int.reduceNeg, a1, cc, R_246_0, R_246_6, R_246_9, R_246_15, R_246_19, R_246_23, R_246_24, R_246_25, R_246_31, R_246_34, R_246_40, R_246_44, R_246_48, R_246_49, R_246_50, R_246_56, R_246_59, R_246_65, R_246_67, R_246_70, R_246_74, R_246_75, R_246_76, R_246_80, R_246_89, R_246_91, R_246_97, R_246_102, R_246_108, R_246_111, R_246_119, R_246_121, R_246_131, R_246_135, R_246_140, R_246_145, R_246_149, R_246_153, R_246_158, R_246_162, R_246_163, C_246_3, C_246_28, C_246_53, C_246_77, C_246_94, C_246_105, C_246_116, C_246_132]
        · simp (disch := first | omega | exact q_b_01 _) only [↓reduceIte, q_bk0, q_bk1, q_bk2, q_sg_b, q_b_0, q_b_n0, q_b_1, q_b_n1, q_b_T, q_b_F, q_sg_g, q_sg_sg, q_sg_xs, q_sg_id, q_gu_ne, q_gu_eq, q_g_fne, q_g_cpe, q_w_f, q_v_f, q_u_f, q_fn_f, q_cp_f, q_sg_pg, q_sg_hc, q_lt_t, q_lt_f, q_le_t, q_le_f, q_eq_t, q_eq_f, ne_eq, eq_self, Bool.false_eq_true, Bool.true_eq_false, not_true_eq_false, not_false_eq_true, true_and, and_true, false_and, and_false, true_or, or_true, false_or, or_false, if_true, if_false, Int.reduceAdd, Int.reduceMul, Int.reduceSub, Int.reduceNeg, a1, cc, R_246_0, R_246_6, R_246_9, R_246_15, R_246_19, R_246_23, R_246_24, R_246_25, R_246_31, R_246_34, R_246_40, R_246_44, R_246_48, R_246_49, R_246_50, R_246_56, R_246_59, R_246_65, R_246_67, R_246_70, R_246_74, R_246_75, R_246_76, R_246_80, R_246_89, R_246_91, R_246_97, R_246_102, R_246_108, R_246_111, R_246_119, R_246_121, R_246_131, R_246_135, R_246_140, R_246_145, R_246_149, R_246_153, R_246_158, R_246_162, R_246_163, C_246_3, C_246_28, C_246_53, C_246_77, C_246_94, C_246_105, C_246_116, C_246_132]
      · rw [if_pos rfl, if_pos rfl]
        by_cases cc : q_sg v1 < q_sg w
        · simp (disch := first | omega | exact q_b_01 _) only [↓reduceIte, q_bk0, q_bk1, q_bk2, q_sg_b, q_b_0, q_b_n0, q_b_1, q_b_n1, q_b_T, q_b_F, q_sg_g, q_sg_sg, q_sg_xs, q_sg_id, q_gu_ne, q_gu_eq, q_g_fne, q_g_cpe, q_w_f, q_v_f, q_u_f, q_fn_f, q_cp_f, q_sg_pg, q_sg_hc, q_lt_t, q_lt_f, q_le_t, q_le_f, q_eq_t, q_eq_f, ne_eq, eq_self, Bool.false_eq_true, Bool.true_eq_false, not_true_eq_false, not_false_eq_true, true_and, and_true, false_and, and_false, true_or, or_true, false_or, or_false, if_true, if_false, Int.reduceAdd, Int.reduceMul, Int.reduceSub, Int.reduceNeg, a1, cc, R_246_0, R_246_6, R_246_9, R_246_15, R_246_19, R_246_23, R_246_24, R_246_25, R_246_31, R_246_34, R_246_40, R_246_44, R_246_48, R_246_49, R_246_50, R_246_56, R_246_59, R_246_65, R_246_67, R_246_70, R_246_74, R_246_75, R_246_76, R_246_80, R_246_89, R_246_91, R_246_97, R_246_102, R_246_108, R_246_111, R_246_119, R_246_121, R_246_131, R_246_135, R_246_140, R_246_145, R_246_149, R_246_153, R_246_158, R_246_162, R_246_163, C_246_3, C_246_28, C_246_53, C_246_77, C_246_94, C_246_105, C_246_116, C_246_132]
        · simp (disch := first | omega | exact q_b_01 _) only [↓reduceIte, q_bk0, q_bk1, q_bk2, q_sg_b, q_b_0, q_b_n0, q_b_1, q_b_n1, q_b_T, q_b_F, q_sg_g, q_sg_sg, q_sg_xs, q_sg_id, q_gu_ne, q_gu_eq, q_g_fne, q_g_cpe, q_w_f, q_v_f, q_u_f, q_fn_f, q_cp_f, q_sg_pg, q_sg_hc, q_lt_t, q_lt_f, q_le_t, q_le_f, q_eq_t, q_eq_f, ne_eq, eq_self, Bool.false_eq_true, Bool.true_eq_false, not_true_eq_false, not_false_eq_true, true_and, and_true, false_and, and_false, true_or, or_true, false_or, or_false, if_true, if_false, Int.reduceAdd, Int.reduceMul, Int.reduceSub, Int.reduceNeg, a1, cc, R_246_0, R_246_6, R_246_9, R_246_15, R_246_19, R_246_23, R_246_24, R_246_25, R_246_31, R_246_34, R_246_40, R_246_44, R_246_48, R_246_49, R_246_50, R_246_56, R_246_59, R_246_65, R_246_67, R_246_70, R_246_74, R_246_75, R_246_76, R_246_80, R_246_89, R_246_91, R_246_97, R_246_102, R_246_108, R_246_111, R_246_119, R_246_121, R_246_131, R_246_135, R_246_140, R_246_145, R_246_149, R_246_153, R_246_158, R_246_162, R_246_163, C_246_3, C_246_28, C_246_53, C_246_77, C_246_94, C_246_105, C_246_116, C_246_132]
    · split <;> exact B01_b _
    · obtain ⟨m1, x1, y1⟩ := hg hR
      obtain ⟨m2, x2, y2⟩ := a3 hR
      have z1 := Gd_sg hR y1 (by omega)
      have z2 := Gd_sg hR y2 (by show q.length ≤ 400; omega)
      refine ⟨3, Nat.le_refl _, ?_⟩
      show Gd F (l1 ++ q ++ _) _ _
      rw [z1, z2]
      cases less
      · rw [if_neg (by decide), if_neg (by decide)]
        exact Gd.mo y1 y2 (by omega) (by omega)
      · rw [if_pos rfl, if_pos rfl]
        exact Gd.le y1 y2 (by omega) (by omega)
    · show 1 ≤ (l1 ++ q ++ _).length
      simp only [List.length_append, List.length_cons, List.length_nil]
      omega
    · show ((l1 ++ q ++ [_]).length : Int) + _ ≤ bs T E i'
      simp only [List.length_append, List.length_cons, List.length_nil]
      omega
theorem mm_plain (H : TX T E) (hf : Fc F s) (hs : MS T E (bs T E i) s) (b0 : 0 ≤ bs T E i) : MSp T E F 0 3 i B01 s (pPlain T E i) (fun v t => EV (d + 12) 246 0 [.ref 285, .null, .null, .null] [] (q_h L xs s O c) = some (.inl (some (.int (q_I (v)))), q_h L xs (t) O c)) := by
  have s1 := MS_cur H hs
  have hb := MS_b H hs
  have le := MS_le H hs
  have hE := H.2.1
  have hE0 := H.1
  have hf0 := hs.2.1
  have en : bs T E (i + 1) = nxt T E (bs T E i) := rfl
  have w9 := hs_head (d := d + 2) (L := L) (xs := xs) (O := O) (c := c) H hs
  have w10 := hs_slip (d := d + 2) (L := L) (xs := xs) (O := O) (c := c) H s1
  have w11 := hs_even (d := d + 2) (L := L) (xs := xs) (O := O) (c := c) H s1
  rw [q_uu_eq] at w10 w11
  unfold pPlain
  by_cases c1 : thg T E (bs T E i) = 1 ∧ 9 ≤ tel T E (bs T E i) ∧ tel T E (bs T E i) ≤ 11
  · rw [if_pos c1]
    have bE := thg_lt (T := T) (E := E) (b := bs T E i) (by omega)
    have m := MS_nxt H hs bE
    have ng := nxt_gt (T := T) bE
    have F1 : FM s (q_u s 285 11 (tend T E (bs T E i))) := FM_u FM_refl (by omega)
    have f0 := Fc_m hf F1 0 (by omega) (by omega)
    have f1 := Fc_m hf F1 1 (by omega) (by omega)
    have fr := q_g_rg (q_u s 285 11 (tend T E (bs T E i))) 291 1
    rw [f1] at fr
    have fm := q_rm2 (F 0)
    generalize hu : q_u s 285 11 (tend T E (bs T E i)) = u at *
    refine ⟨u, if tel T E (bs T E i) = 9 then q_b (F 1 = 3) else if tel T E (bs T E i) = 10 then q_b (F 1 = 2) else q_b (q_rm (F 0) 2 = 0), ?_, ?_, m, fun _ => ⟨1, by omega, ?_⟩, Nat.le_refl _, ?_, F1⟩
    · show EV (d + 12) 246 0 [.ref 285, .null, .null, .null] [] (q_h L xs s O c) = _
      by_cases t9 : tel T E (bs T E i) = 9
      · rw [if_pos ⟨c1.1, t9⟩, q_bt ⟨c1.1, t9⟩, hu] at w9
        rw [if_pos t9]
        by_cases cc : F 1 = 3
        · simp (disch := first | omega | exact q_b_01 _) only [↓reduceIte, q_bk0, q_bk1, q_bk2, q_sg_b, q_b_0, q_b_n0, q_b_1, q_b_n1, q_b_T, q_b_F, q_sg_g, q_sg_sg, q_sg_xs, q_sg_id, q_gu_ne, q_gu_eq, q_g_fne, q_g_cpe, q_w_f, q_v_f, q_u_f, q_fn_f, q_cp_f, q_sg_pg, q_sg_hc, q_lt_t, q_lt_f, q_le_t, q_le_f, q_eq_t, q_eq_f, ne_eq, eq_self, Bool.false_eq_true, Bool.true_eq_false, not_true_eq_false, not_false_eq_true, true_and, and_true, false_and, and_false, true_or, or_true, false_or, or_false, if_true, if_false, Int.reduceAdd, Int.reduceMul, Int.reduceSub, Int.reduceNeg, w9, f1, cc, R_246_0, R_246_6, R_246_9, R_246_15, R_246_19, R_246_23, R_246_24, R_246_25, R_246_31, R_246_34, R_246_40, R_246_44, R_246_48, R_246_49, R_246_50, R_246_56, R_246_59, R_246_65, R_246_67, R_246_70, R_246_74, R_246_75, R_246_76, R_246_80, R_246_89, R_246_91, R_246_97, R_246_102, R_246_108, R_246_111, R_246_119, R_246_121, R_246_131, R_246_135, R_246_140, R_246_145, R_246_149, R_246_153, R_246_158, R_246_162, R_246_163, C_246_3, C_246_28, C_246_53, C_246_77, C_246_94, C_246_105, C_246_116, C_246_132]
        · simp (disch := first | omega | exact q_b_01 _) only [↓reduceIte, q_bk0, q_bk1, q_bk2, q_sg_b, q_b_0, q_b_n0, q_b_1, q_b_n1, q_b_T, q_b_F, q_sg_g, q_sg_sg, q_sg_xs, q_sg_id, q_gu_ne, q_gu_eq, q_g_fne, q_g_cpe, q_w_f, q_v_f, q_u_f, q_fn_f, q_cp_f, q_sg_pg, q_sg_hc, q_lt_t, q_lt_f, q_le_t, q_le_f, q_eq_t, q_eq_f, ne_eq, eq_self, Bool.false_eq_true, Bool.true_eq_false, not_true_eq_false, not_false_eq_true, true_and, and_true, false_and, and_false, true_or, or_true, false_or, or_false, if_true, if_false, Int.reduceAdd, Int.reduceMul, Int.reduceSub, Int.reduceNeg, w9, f1, cc, R_246_0, R_246_6, R_246_9, R_246_15, R_246_19, R_246_23, R_246_24, R_246_25, R_246_31, R_246_34, R_246_40, R_246_44, R_246_48, R_246_49, R_246_50, R_246_56, R_246_59, R_246_65, R_246_67, R_246_70, R_246_74, R_246_75, R_246_76, R_246_80, R_246_89, R_246_91, R_246_97, R_246_102, R_246_108, R_246_111, R_246_119, R_246_121, R_246_131, R_246_135, R_246_140, R_246_145, R_246_149, R_246_153, R_246_158, R_246_162, R_246_163, C_246_3, C_246_28, C_246_53, C_246_77, C_246_94, C_246_105, C_246_116, C_246_132]
      · rw [if_neg (fun x => t9 x.2), q_bf (fun x => t9 x.2)] at w9
        rw [if_neg t9]
        by_cases t10 : tel T E (bs T E i) = 10
        · rw [if_pos ⟨c1.1, t10⟩, q_bt ⟨c1.1, t10⟩, hu] at w10
          rw [if_pos t10]
          by_cases cc : F 1 = 2
          · simp (disch := first | omega | exact q_b_01 _) only [↓reduceIte, q_bk0, q_bk1, q_bk2, q_sg_b, q_b_0, q_b_n0, q_b_1, q_b_n1, q_b_T, q_b_F, q_sg_g, q_sg_sg, q_sg_xs, q_sg_id, q_gu_ne, q_gu_eq, q_g_fne, q_g_cpe, q_w_f, q_v_f, q_u_f, q_fn_f, q_cp_f, q_sg_pg, q_sg_hc, q_lt_t, q_lt_f, q_le_t, q_le_f, q_eq_t, q_eq_f, ne_eq, eq_self, Bool.false_eq_true, Bool.true_eq_false, not_true_eq_false, not_false_eq_true, true_and, and_true, false_and, and_false, true_or, or_true, false_or, or_false, if_true, if_false, Int.reduceAdd, Int.reduceMul, Int.reduceSub, Int.reduceNeg, w9, w10, f1, cc, R_246_0, R_246_6, R_246_9, R_246_15, R_246_19, R_246_23, R_246_24, R_246_25, R_246_31, R_246_34, R_246_40, R_246_44, R_246_48, R_246_49, R_246_50, R_246_56, R_246_59, R_246_65, R_246_67, R_246_70, R_246_74, R_246_75, R_246_76, R_246_80, R_246_89, R_246_91, R_246_97, R_246_102, R_246_108, R_246_111, R_246_119, R_246_121, R_246_131, R_246_135, R_246_140, R_246_145, R_246_149, R_246_153, R_246_158, R_246_162, R_246_163, C_246_3, C_246_28, C_246_53, C_246_77, C_246_94, C_246_105, C_246_116, C_246_132]
          · simp (disch := first | omega | exact q_b_01 _) only [↓reduceIte, q_bk0, q_bk1, q_bk2, q_sg_b, q_b_0, q_b_n0, q_b_1, q_b_n1, q_b_T, q_b_F, q_sg_g, q_sg_sg, q_sg_xs, q_sg_id, q_gu_ne, q_gu_eq, q_g_fne, q_g_cpe, q_w_f, q_v_f, q_u_f, q_fn_f, q_cp_f, q_sg_pg, q_sg_hc, q_lt_t, q_lt_f, q_le_t, q_le_f, q_eq_t, q_eq_f, ne_eq, eq_self, Bool.false_eq_true, Bool.true_eq_false, not_true_eq_false, not_false_eq_true, true_and, and_true, false_and, and_false, true_or, or_true, false_or, or_false, if_true, if_false, Int.reduceAdd, Int.reduceMul, Int.reduceSub, Int.reduceNeg, w9, w10, f1, cc, R_246_0, R_246_6, R_246_9, R_246_15, R_246_19, R_246_23, R_246_24, R_246_25, R_246_31, R_246_34, R_246_40, R_246_44, R_246_48, R_246_49, R_246_50, R_246_56, R_246_59, R_246_65, R_246_67, R_246_70, R_246_74, R_246_75, R_246_76, R_246_80, R_246_89, R_246_91, R_246_97, R_246_102, R_246_108, R_246_111, R_246_119, R_246_121, R_246_131, R_246_135, R_246_140, R_246_145, R_246_149, R_246_153, R_246_158, R_246_162, R_246_163, C_246_3, C_246_28, C_246_53, C_246_77, C_246_94, C_246_105, C_246_116, C_246_132]
        · rw [if_neg (fun x => t10 x.2), q_bf (fun x => t10 x.2)] at w10
          rw [if_neg t10]
          have t11 : tel T E (bs T E i) = 11 := by omega
          rw [if_pos ⟨c1.1, t11⟩, q_bt ⟨c1.1, t11⟩, hu] at w11
          by_cases cc : q_rm (F 0) 2 = 0
          · simp (disch := first | omega | exact q_b_01 _) only [↓reduceIte, q_bk0, q_bk1, q_bk2, q_sg_b, q_b_0, q_b_n0, q_b_1, q_b_n1, q_b_T, q_b_F, q_sg_g, q_sg_sg, q_sg_xs, q_sg_id, q_gu_ne, q_gu_eq, q_g_fne, q_g_cpe, q_w_f, q_v_f, q_u_f, q_fn_f, q_cp_f, q_sg_pg, q_sg_hc, q_lt_t, q_lt_f, q_le_t, q_le_f, q_eq_t, q_eq_f, ne_eq, eq_self, Bool.false_eq_true, Bool.true_eq_false, not_true_eq_false, not_false_eq_true, true_and, and_true, false_and, and_false, true_or, or_true, false_or, or_false, if_true, if_false, Int.reduceAdd, Int.reduceMul, Int.reduceSub, Int.reduceNeg, w9, w10, w11, f0, cc, R_246_0, R_246_6, R_246_9, R_246_15, R_246_19, R_246_23, R_246_24, R_246_25, R_246_31, R_246_34, R_246_40, R_246_44, R_246_48, R_246_49, R_246_50, R_246_56, R_246_59, R_246_65, R_246_67, R_246_70, R_246_74, R_246_75, R_246_76, R_246_80, R_246_89, R_246_91, R_246_97, R_246_102, R_246_108, R_246_111, R_246_119, R_246_121, R_246_131, R_246_135, R_246_140, R_246_145, R_246_149, R_246_153, R_246_158, R_246_162, R_246_163, C_246_3, C_246_28, C_246_53, C_246_77, C_246_94, C_246_105, C_246_116, C_246_132]
          · simp (disch := first | omega | exact q_b_01 _) only [↓reduceIte, q_bk0, q_bk1, q_bk2, q_sg_b, q_b_0, q_b_n0, q_b_1, q_b_n1, q_b_T, q_b_F, q_sg_g, q_sg_sg, q_sg_xs, q_sg_id, q_gu_ne, q_gu_eq, q_g_fne, q_g_cpe, q_w_f, q_v_f, q_u_f, q_fn_f, q_cp_f, q_sg_pg, q_sg_hc, q_lt_t, q_lt_f, q_le_t, q_le_f, q_eq_t, q_eq_f, ne_eq, eq_self, Bool.false_eq_true, Bool.true_eq_false, not_true_eq_false, not_false_eq_true, true_and, and_true, false_and, and_false, true_or, or_true, false_or, or_false, if_true, if_false, Int.reduceAdd, Int.reduceMul, Int.reduceSub, Int.reduceNeg, w9, w10, w11, f0, cc, R_246_0, R_246_6, R_246_9, R_246_15, R_246_19, R_246_23, R_246_24, R_246_25, R_246_31, R_246_34, R_246_40, R_246_44, R_246_48, R_246_49, R_246_50, R_246_56, R_246_59, R_246_65, R_246_67, R_246_70, R_246_74, R_246_75, R_246_76, R_246_80, R_246_89, R_246_91, R_246_97, R_246_102, R_246_108, R_246_111, R_246_119, R_246_121, R_246_131, R_246_135, R_246_140, R_246_145, R_246_149, R_246_153, R_246_158, R_246_162, R_246_163, C_246_3, C_246_28, C_246_53, C_246_77, C_246_94, C_246_105, C_246_116, C_246_132]
    · split
      · exact B01_b _
      · split <;> exact B01_b _
    · show Gd F [2000 + tel T E (bs T E i) - 9] _ _
      obtain ⟨-, t0, t1⟩ := c1
      generalize tel T E (bs T E i) = te at *
      obtain e | e | e : te = 9 ∨ te = 10 ∨ te = 11 := by omega
      · subst e
        exact Gd.hd
      · subst e
        exact Gd.sl
      · subst e
        exact Gd.ev
    · show ((1 : Nat) : Int) + bs T E i ≤ bs T E (i + 1)
      rw [en]
      omega
  · rw [if_neg c1]
    have z : ∀ k : Int, 9 ≤ k → k ≤ 11 → ¬ (thg T E (bs T E i) = 1 ∧ tel T E (bs T E i) = k) := fun k _ _ x => by omega
    rw [if_neg (z 9 (by omega) (by omega)), q_bf (z 9 (by omega) (by omega))] at w9
    rw [if_neg (z 10 (by omega) (by omega)), q_bf (z 10 (by omega) (by omega))] at w10
    rw [if_neg (z 11 (by omega) (by omega)), q_bf (z 11 (by omega) (by omega))] at w11
    have F0 : FM s (q_u s 285 11 (bs T E i)) := FM_u FM_refl (by omega)
    have k := mm_amount (d := d) (L := L) (xs := xs) (O := O) (c := c) (i := i) H (Fc_m hf F0) s1 b0
    unfold pCmp
    cases hp : pSum T E i with
    | inl e =>
      rw [hp] at k
      obtain ⟨t, w, a1, -, a2, a3⟩ := k
      have hne := MG_ne a2
      refine ⟨t, 0, ?_, Or.inl rfl, a2, FM_trans F0 a3⟩
      simp (disch := first | omega | exact q_b_01 _) only [↓reduceIte, q_bk0, q_bk1, q_bk2, q_sg_b, q_b_0, q_b_n0, q_b_1, q_b_n1, q_b_T, q_b_F, q_sg_g, q_sg_sg, q_sg_xs, q_sg_id, q_gu_ne, q_gu_eq, q_g_fne, q_g_cpe, q_w_f, q_v_f, q_u_f, q_fn_f, q_cp_f, q_sg_pg, q_sg_hc, q_lt_t, q_lt_f, q_le_t, q_le_f, q_eq_t, q_eq_f, ne_eq, eq_self, Bool.false_eq_true, Bool.true_eq_false, not_true_eq_false, not_false_eq_true, true_and, and_true, false_and, and_false, true_or, or_true, false_or, or_false, if_true, if_false, Int.reduceAdd, Int.reduceMul, Int.reduceSub, Int.reduceNeg, w9, w10, w11, a1, hne, R_246_0, R_246_6, R_246_9, R_246_15, R_246_19, R_246_23, R_246_24, R_246_25, R_246_31, R_246_34, R_246_40, R_246_44, R_246_48, R_246_49, R_246_50, R_246_56, R_246_59, R_246_65, R_246_67, R_246_70, R_246_74, R_246_75, R_246_76, R_246_80, R_246_89, R_246_91, R_246_97, R_246_102, R_246_108, R_246_111, R_246_119, R_246_121, R_246_131, R_246_135, R_246_140, R_246_145, R_246_149, R_246_153, R_246_158, R_246_162, R_246_163, C_246_3, C_246_28, C_246_53, C_246_77, C_246_94, C_246_105, C_246_116, C_246_132]
    | inr p =>
      rw [hp] at k
      obtain ⟨i1, l1⟩ := p
      obtain ⟨t, w, a1, -, a2, a3, a4, a5, a6⟩ := k
      have a2' : MS T E (bs T E i1) t := a2
      have a4' : 1 ≤ l1.length := a4
      have a5' : (l1.length : Int) + bs T E i ≤ bs T E i1 := a5
      have F1 := FM_trans F0 a6
      have t1 := MS_cur H a2'
      have tf0 := a2'.2.1
      have hb1 := MS_b H a2'
      have le1 := MS_le H a2'
      have g11 : q_g (q_u t 285 11 (bs T E i1)) 285 11 = bs T E i1 := by rw [q_gu_eq rfl, q_sg_id (by omega) (by omega)]
      have hsl := ms_sign (d := d + 9) (L := L) (xs := xs) (O := O) (c := c) (x := 60) H a2' (by omega) (by omega) (by omega) (by omega)
      have hsm := ms_sign (d := d + 9) (L := L) (xs := xs) (O := O) (c := c) (x := 62) H t1 (by omega) (by omega) (by omega) (by omega)
      rw [q_uu_eq] at hsm
      have en1 : bs T E (i1 + 1) = nxt T E (bs T E i1) := rfl
      show MSp T E F 0 3 i B01 s (if tk T E i1 3 60 then pb (pSum T E (i1 + 1)) (fun i2 l2 => .inr (i2, l1 ++ l2 ++ [4001])) else if tk T E i1 3 62 then pb (pSum T E (i1 + 1)) (fun i2 l2 => .inr (i2, l1 ++ l2 ++ [4002])) else .inl (bs T E i1)) _
      by_cases cl : tk T E i1 3 60
      · rw [if_pos cl]
        have st := sg_tend cl.1
        have ng := nxt_gt (T := T) st.2
        have m := MS_nxt H a2' st.2
        rw [st.1, ← en1] at m
        have F2 : FM t (q_u t 285 11 (bs T E i1 + 1)) := FM_u FM_refl (by omega)
        have k2 := mm_cmp2 (d := d) (L := L) (xs := xs) (O := O) (c := c) (i := i1 + 1) (v1 := w) (l1 := l1) true H (Fc_m hf (FM_trans F1 F2)) m i a3 a4' (by omega) b0
        rw [if_pos rfl, if_pos rfl] at k2
        have e1 : EV (d + 12) 246 0 [.ref 285, .null, .null, .null] [] (q_h L xs s O c) = EV (d + 12) 246 132 [.ref 285, .int (q_I (w)), .int (q_I (1)), .null] [.ref 285] (q_h L xs (q_u t 285 11 (bs T E i1 + 1)) O c) := by
          simp (disch := first | omega | exact q_b_01 _) only [↓reduceIte, q_bk0, q_bk1, q_bk2, q_sg_b, q_b_0, q_b_n0, q_b_1, q_b_n1, q_b_T, q_b_F, q_sg_g, q_sg_sg, q_sg_xs, q_sg_id, q_gu_ne, q_gu_eq, q_g_fne, q_g_cpe, q_w_f, q_v_f, q_u_f, q_fn_f, q_cp_f, q_sg_pg, q_sg_hc, q_lt_t, q_lt_f, q_le_t, q_le_f, q_eq_t, q_eq_f, ne_eq, eq_self, Bool.false_eq_true, Bool.true_eq_false, not_true_eq_false, not_false_eq_true, true_and, and_true, false_and, and_false, true_or, or_true, false_or, or_false, if_true, if_false, Int.reduceAdd, Int.reduceMul, Int.reduceSub, Int.reduceNeg, w9, w10, w11, a1, tf0, hsl, q_bt cl, g11, q_uu_eq, R_246_0, R_246_6, R_246_9, R_246_15, R_246_19, R_246_23, R_246_24, R_246_25, R_246_31, R_246_34, R_246_40, R_246_44, R_246_48, R_246_49, R_246_50, R_246_56, R_246_59, R_246_65, R_246_67, R_246_70, R_246_74, R_246_75, R_246_76, R_246_80, R_246_89, R_246_91, R_246_97, R_246_102, R_246_108, R_246_111, R_246_119, R_246_121, R_246_131, R_246_135, R_246_140, R_246_145, R_246_149, R_246_153, R_246_158, R_246_162, R_246_163, C_246_3, C_246_28, C_246_53, C_246_77, C_246_94, C_246_105, C_246_116]
        rw [e1]
        have F3 := FM_trans F1 F2
        cases hq : pb (pSum T E (i1 + 1)) (fun i2 l2 => (.inr (i2, l1 ++ l2 ++ [4001]) : PR)) with
        | inl e =>
          rw [hq] at k2
          obtain ⟨t4, w4, r1, r2, r3, r4⟩ := k2
          exact ⟨t4, w4, r1, r2, r3, FM_trans F3 r4⟩
        | inr p =>
          rw [hq] at k2
          obtain ⟨t4, w4, r1, r2, r3, r4, r5, r6, r7⟩ := k2
          exact ⟨t4, w4, r1, r2, r3, r4, r5, r6, FM_trans F3 r7⟩
      · rw [if_neg cl]
        by_cases cm : tk T E i1 3 62
        · rw [if_pos cm]
          have st := sg_tend cm.1
          have ng := nxt_gt (T := T) st.2
          have m := MS_nxt H a2' st.2
          rw [st.1, ← en1] at m
          have F2 : FM t (q_u t 285 11 (bs T E i1 + 1)) := FM_u FM_refl (by omega)
          have k2 := mm_cmp2 (d := d) (L := L) (xs := xs) (O := O) (c := c) (i := i1 + 1) (v1 := w) (l1 := l1) false H (Fc_m hf (FM_trans F1 F2)) m i a3 a4' (by omega) b0
          rw [if_neg (by decide), if_neg (by decide)] at k2
          have e1 : EV (d + 12) 246 0 [.ref 285, .null, .null, .null] [] (q_h L xs s O c) = EV (d + 12) 246 132 [.ref 285, .int (q_I (w)), .int (q_I (0)), .null] [.ref 285] (q_h L xs (q_u t 285 11 (bs T E i1 + 1)) O c) := by
            simp (disch := first | omega | exact q_b_01 _) only [↓reduceIte, q_bk0, q_bk1, q_bk2, q_sg_b, q_b_0, q_b_n0, q_b_1, q_b_n1, q_b_T, q_b_F, q_sg_g, q_sg_sg, q_sg_xs, q_sg_id, q_gu_ne, q_gu_eq, q_g_fne, q_g_cpe, q_w_f, q_v_f, q_u_f, q_fn_f, q_cp_f, q_sg_pg, q_sg_hc, q_lt_t, q_lt_f, q_le_t, q_le_f, q_eq_t, q_eq_f, ne_eq, eq_self, Bool.false_eq_true, Bool.true_eq_false, not_true_eq_false, not_false_eq_true, true_and, and_true, false_and, and_false, true_or, or_true, false_or, or_false, if_true, if_false, Int.reduceAdd, Int.reduceMul, Int.reduceSub, Int.reduceNeg, w9, w10, w11, a1, tf0, hsl, hsm, q_bf cl, q_bt cm, g11, q_uu_eq, R_246_0, R_246_6, R_246_9, R_246_15, R_246_19, R_246_23, R_246_24, R_246_25, R_246_31, R_246_34, R_246_40, R_246_44, R_246_48, R_246_49, R_246_50, R_246_56, R_246_59, R_246_65, R_246_67, R_246_70, R_246_74, R_246_75, R_246_76, R_246_80, R_246_89, R_246_91, R_246_97, R_246_102, R_246_108, R_246_111, R_246_119, R_246_121, R_246_131, R_246_135, R_246_140, R_246_145, R_246_149, R_246_153, R_246_158, R_246_162, R_246_163, C_246_3, C_246_28, C_246_53, C_246_77, C_246_94, C_246_105, C_246_116]
          rw [e1]
          have F3 := FM_trans F1 F2
          cases hq : pb (pSum T E (i1 + 1)) (fun i2 l2 => (.inr (i2, l1 ++ l2 ++ [4002]) : PR)) with
          | inl e =>
            rw [hq] at k2
            obtain ⟨t4, w4, r1, r2, r3, r4⟩ := k2
            exact ⟨t4, w4, r1, r2, r3, FM_trans F3 r4⟩
          | inr p =>
            rw [hq] at k2
            obtain ⟨t4, w4, r1, r2, r3, r4, r5, r6, r7⟩ := k2
            exact ⟨t4, w4, r1, r2, r3, r4, r5, r6, FM_trans F3 r7⟩
        · rw [if_neg cm]
          have mw := mm_wrong (d := d + 11) (L := L) (xs := xs) (s := q_u t 285 11 (bs T E i1)) (O := O) (c := c) (w := bs T E i1)
          rw [if_pos t1.2.1] at mw
          refine ⟨_, 0, ?_, Or.inl rfl, MG_of H a2' hb1.1 (by omega), FM_trans F1 (FM_u (FM_u FM_refl (by omega)) (by omega))⟩
          simp (disch := first | omega | exact q_b_01 _) only [↓reduceIte, q_bk0, q_bk1, q_bk2, q_sg_b, q_b_0, q_b_n0, q_b_1, q_b_n1, q_b_T, q_b_F, q_sg_g, q_sg_sg, q_sg_xs, q_sg_id, q_gu_ne, q_gu_eq, q_g_fne, q_g_cpe, q_w_f, q_v_f, q_u_f, q_fn_f, q_cp_f, q_sg_pg, q_sg_hc, q_lt_t, q_lt_f, q_le_t, q_le_f, q_eq_t, q_eq_f, ne_eq, eq_self, Bool.false_eq_true, Bool.true_eq_false, not_true_eq_false, not_false_eq_true, true_and, and_true, false_and, and_false, true_or, or_true, false_or, or_false, if_true, if_false, Int.reduceAdd, Int.reduceMul, Int.reduceSub, Int.reduceNeg, w9, w10, w11, a1, tf0, hsl, hsm, q_bf cl, q_bf cm, g11, mw, R_246_0, R_246_6, R_246_9, R_246_15, R_246_19, R_246_23, R_246_24, R_246_25, R_246_31, R_246_34, R_246_40, R_246_44, R_246_48, R_246_49, R_246_50, R_246_56, R_246_59, R_246_65, R_246_67, R_246_70, R_246_74, R_246_75, R_246_76, R_246_80, R_246_89, R_246_91, R_246_97, R_246_102, R_246_108, R_246_111, R_246_119, R_246_121, R_246_131, R_246_135, R_246_140, R_246_145, R_246_149, R_246_153, R_246_158, R_246_162, R_246_163, C_246_3, C_246_28, C_246_53, C_246_77, C_246_94, C_246_105, C_246_116, C_246_132]
end MLP
