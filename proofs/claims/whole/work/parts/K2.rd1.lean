/-! THE LAW'S ROUND: its calls -/
section RDS
variable {d L : Nat} {xs : Nat → Int32} {s : Nat → Int → Int32} {O : Nat → Int64} {c : Bool × Nat × Nat} {b x4 : Int}
theorem rd_9 (B : Big b s) (hb : b < 1000000) (i0 : 0 ≤ x4) (i1 : x4 + 6 ≤ L) (hL : L < 2147483648) (x5 x6 : Value) : RdE (d + 41) L xs x4 b c 723 x5 x6 s O := by
  obtain ⟨k, v, t, t', O', c', h1, h2, k0, k1, h0, hO, hc, hB⟩ := op_change (d := d) (L := L) (xs := xs) (O := O) (c := c) B (xs_rg xs (x4 + 1)).1 (xs_rg xs (x4 + 1)).2 (xs_rg xs (x4 + 2)).1 (xs_rg xs (x4 + 2)).2
  dsimp only at h1 h2
  have th := mm_thr (d := d + 40) (L := L) (xs := xs) (O := O') (c := c') h0
  refine ⟨.int (q_I k), .int (q_I v), t', O', c', ?_, hc, Big_mono hB (by omega)⟩
  by_cases hk : k = 0
  · subst hk
    have o := hO rfl
    simp (disch := first | omega | exact q_b_01 _) only [↓reduceIte, q_bk0, q_bk1, q_bk2, q_sg_b, q_b_0, q_b_n0, q_b_1, q_b_n1, q_b_T, q_b_F, q_sg_g, q_sg_sg, q_sg_xs, q_sg_id, q_gu_ne, q_gu_eq, q_g_fne, q_g_cpe, q_w_f, q_v_f, q_u_f, q_fn_f, q_cp_f, q_sg_pg, q_sg_hc, q_lt_t, q_lt_f, q_le_t, q_le_f, q_eq_t, q_eq_f, ne_eq, eq_self, Bool.false_eq_true, Bool.true_eq_false, not_true_eq_false, not_false_eq_true, true_and, and_true, false_and, and_false, true_or, or_true, false_or, or_false, if_true, if_false, Int.reduceAdd, Int.reduceMul, Int.reduceSub, Int.reduceNeg, h1, h2, th, o, q_lc_self, R_0_723, R_0_730, R_0_736, R_0_740, R_0_749, R_0_758, R_0_764, R_0_769, R_0_771, R_0_776, R_0_779, R_0_786, R_0_788, C_0_737, C_0_755, C_0_761]
  · simp (disch := first | omega | exact q_b_01 _) only [↓reduceIte, q_bk0, q_bk1, q_bk2, q_sg_b, q_b_0, q_b_n0, q_b_1, q_b_n1, q_b_T, q_b_F, q_sg_g, q_sg_sg, q_sg_xs, q_sg_id, q_gu_ne, q_gu_eq, q_g_fne, q_g_cpe, q_w_f, q_v_f, q_u_f, q_fn_f, q_cp_f, q_sg_pg, q_sg_hc, q_lt_t, q_lt_f, q_le_t, q_le_f, q_eq_t, q_eq_f, ne_eq, eq_self, Bool.false_eq_true, Bool.true_eq_false, not_true_eq_false, not_false_eq_true, true_and, and_true, false_and, and_false, true_or, or_true, false_or, or_false, if_true, if_false, Int.reduceAdd, Int.reduceMul, Int.reduceSub, Int.reduceNeg, h1, h2, th, hk, R_0_723, R_0_730, R_0_736, R_0_740, R_0_749, R_0_758, R_0_764, R_0_769, R_0_771, R_0_776, R_0_779, R_0_786, R_0_788, C_0_737, C_0_755, C_0_761]
theorem rd_10 (B : Big b s) (hb : b < 1000000) (i0 : 0 ≤ x4) (i1 : x4 + 6 ≤ L) (hL : L < 2147483648) (x5 x6 : Value) : RdE (d + 41) L xs x4 b c 791 x5 x6 s O := by
  obtain ⟨k, v, t, t', O', c', h1, h2, k0, k1, h0, hO, hc, hB⟩ := op_ticks (d := d) (L := L) (xs := xs) (O := O) (c := c) B (by omega) (xs_rg xs (x4 + 1)).1 (xs_rg xs (x4 + 1)).2
  dsimp only at h1 h2
  have th := mm_thr (d := d + 40) (L := L) (xs := xs) (O := O') (c := c') h0
  refine ⟨.int (q_I k), .int (q_I v), t', O', c', ?_, hc, Big_mono hB (by omega)⟩
  by_cases hk : k = 0
  · subst hk
    have o := hO rfl
    simp (disch := first | omega | exact q_b_01 _) only [↓reduceIte, q_bk0, q_bk1, q_bk2, q_sg_b, q_b_0, q_b_n0, q_b_1, q_b_n1, q_b_T, q_b_F, q_sg_g, q_sg_sg, q_sg_xs, q_sg_id, q_gu_ne, q_gu_eq, q_g_fne, q_g_cpe, q_w_f, q_v_f, q_u_f, q_fn_f, q_cp_f, q_sg_pg, q_sg_hc, q_lt_t, q_lt_f, q_le_t, q_le_f, q_eq_t, q_eq_f, ne_eq, eq_self, Bool.false_eq_true, Bool.true_eq_false, not_true_eq_false, not_false_eq_true, true_and, and_true, false_and, and_false, true_or, or_true, false_or, or_false, if_true, if_false, Int.reduceAdd, Int.reduceMul, Int.reduceSub, Int.reduceNeg, h1, h2, th, o, q_lc_self, R_0_791, R_0_798, R_0_802, R_0_814, R_0_820, R_0_825, R_0_827, R_0_832, R_0_835, R_0_842, R_0_844, C_0_799, C_0_811, C_0_817]
  · simp (disch := first | omega | exact q_b_01 _) only [↓reduceIte, q_bk0, q_bk1, q_bk2, q_sg_b, q_b_0, q_b_n0, q_b_1, q_b_n1, q_b_T, q_b_F, q_sg_g, q_sg_sg, q_sg_xs, q_sg_id, q_gu_ne, q_gu_eq, q_g_fne, q_g_cpe, q_w_f, q_v_f, q_u_f, q_fn_f, q_cp_f, q_sg_pg, q_sg_hc, q_lt_t, q_lt_f, q_le_t, q_le_f, q_eq_t, q_eq_f, ne_eq, eq_self, Bool.false_eq_true, Bool.true_eq_false, not_true_eq_false, not_false_eq_true, true_and, and_true, false_and, and_false, true_or, or_true, false_or, or_false, if_true, if_false, Int.reduceAdd, Int.reduceMul, Int.reduceSub, Int.reduceNeg, h1, h2, th, hk, R_0_791, R_0_798, R_0_802, R_0_814, R_0_820, R_0_825, R_0_827, R_0_832, R_0_835, R_0_842, R_0_844, C_0_799, C_0_811, C_0_817]
theorem rd_11 (B : Big b s) (hb : b < 1000000) (i0 : 0 ≤ x4) (i1 : x4 + 6 ≤ L) (hL : L < 2147483648) (x5 x6 : Value) : RdE (d + 41) L xs x4 b c 847 x5 x6 s O := by
  obtain ⟨k, v, t, t', O', c', h1, h2, k0, k1, h0, hO, hc, hB⟩ := op_put (d := d) (L := L) (xs := xs) (O := O) (c := c) B (xs_rg xs (x4 + 1)).1 (xs_rg xs (x4 + 1)).2 (xs_rg xs (x4 + 2)).1 (xs_rg xs (x4 + 2)).2
  dsimp only at h1 h2
  have th := mm_thr (d := d + 40) (L := L) (xs := xs) (O := O') (c := c') h0
  refine ⟨.int (q_I k), .int (q_I v), t', O', c', ?_, hc, Big_mono hB (by omega)⟩
  by_cases hk : k = 0
  · subst hk
    have o := hO rfl
    simp (disch := first | omega | exact q_b_01 _) only [↓reduceIte, q_bk0, q_bk1, q_bk2, q_sg_b, q_b_0, q_b_n0, q_b_1, q_b_n1, q_b_T, q_b_F, q_sg_g, q_sg_sg, q_sg_xs, q_sg_id, q_gu_ne, q_gu_eq, q_g_fne, q_g_cpe, q_w_f, q_v_f, q_u_f, q_fn_f, q_cp_f, q_sg_pg, q_sg_hc, q_lt_t, q_lt_f, q_le_t, q_le_f, q_eq_t, q_eq_f, ne_eq, eq_self, Bool.false_eq_true, Bool.true_eq_false, not_true_eq_false, not_false_eq_true, true_and, and_true, false_and, and_false, true_or, or_true, false_or, or_false, if_true, if_false, Int.reduceAdd, Int.reduceMul, Int.reduceSub, Int.reduceNeg, h1, h2, th, o, q_lc_self, R_0_847, R_0_854, R_0_860, R_0_864, R_0_873, R_0_882, R_0_888, R_0_893, R_0_895, R_0_900, R_0_903, R_0_910, R_0_912, C_0_861, C_0_879, C_0_885]
  · simp (disch := first | omega | exact q_b_01 _) only [↓reduceIte, q_bk0, q_bk1, q_bk2, q_sg_b, q_b_0, q_b_n0, q_b_1, q_b_n1, q_b_T, q_b_F, q_sg_g, q_sg_sg, q_sg_xs, q_sg_id, q_gu_ne, q_gu_eq, q_g_fne, q_g_cpe, q_w_f, q_v_f, q_u_f, q_fn_f, q_cp_f, q_sg_pg, q_sg_hc, q_lt_t, q_lt_f, q_le_t, q_le_f, q_eq_t, q_eq_f, ne_eq, eq_self, Bool.false_eq_true, Bool.true_eq_false, not_true_eq_false, not_false_eq_true, true_and, and_true, false_and, and_false, true_or, or_true, false_or, or_false, if_true, if_false, Int.reduceAdd, Int.reduceMul, Int.reduceSub, Int.reduceNeg, h1, h2, th, hk, R_0_847, R_0_854, R_0_860, R_0_864, R_0_873, R_0_882, R_0_888, R_0_893, R_0_895, R_0_900, R_0_903, R_0_910, R_0_912, C_0_861, C_0_879, C_0_885]
theorem rd_12 (B : Big b s) (hb : b < 1000000) (i0 : 0 ≤ x4) (i1 : x4 + 6 ≤ L) (hL : L < 2147483648) (x5 x6 : Value) : RdE (d + 41) L xs x4 b c 915 x5 x6 s O := by
  obtain ⟨v, t, t', h1, h2, h3⟩ := op_forget (d := d) (L := L) (xs := xs) (O := O) (c := c) B
  dsimp only at h1 h2
  refine ⟨x5, x6, t', O, c, ?_, Or.inl rfl, Big_mono h3 (by omega)⟩
  simp (disch := first | omega | exact q_b_01 _) only [↓reduceIte, q_bk0, q_bk1, q_bk2, q_sg_b, q_b_0, q_b_n0, q_b_1, q_b_n1, q_b_T, q_b_F, q_sg_g, q_sg_sg, q_sg_xs, q_sg_id, q_gu_ne, q_gu_eq, q_g_fne, q_g_cpe, q_w_f, q_v_f, q_u_f, q_fn_f, q_cp_f, q_sg_pg, q_sg_hc, q_lt_t, q_lt_f, q_le_t, q_le_f, q_eq_t, q_eq_f, ne_eq, eq_self, Bool.false_eq_true, Bool.true_eq_false, not_true_eq_false, not_false_eq_true, true_and, and_true, false_and, and_false, true_or, or_true, false_or, or_false, if_true, if_false, Int.reduceAdd, Int.reduceMul, Int.reduceSub, Int.reduceNeg, h1, h2, R_0_915, R_0_919, R_0_923, R_0_926, C_0_916, C_0_920]
theorem rd_13 (B : Big b s) (hb : b < 1000000) (i0 : 0 ≤ x4) (i1 : x4 + 6 ≤ L) (hL : L < 2147483648) (x5 x6 : Value) : RdE (d + 41) L xs x4 b c 928 x5 x6 s O := by
  obtain ⟨k, v, t, t', O', c', h1, h2, k0, k1, h0, hO, hc, hB⟩ := op_commit (d := d) (L := L) (xs := xs) (O := O) (c := c) B (by omega)
  dsimp only at h1 h2
  have th := mm_thr (d := d + 40) (L := L) (xs := xs) (O := O') (c := c') h0
  refine ⟨.int (q_I k), .int (q_I v), t', O', c', ?_, hc, Big_mono hB (by omega)⟩
  by_cases hk : k = 0
  · subst hk
    have o := hO rfl
    simp (disch := first | omega | exact q_b_01 _) only [↓reduceIte, q_bk0, q_bk1, q_bk2, q_sg_b, q_b_0, q_b_n0, q_b_1, q_b_n1, q_b_T, q_b_F, q_sg_g, q_sg_sg, q_sg_xs, q_sg_id, q_gu_ne, q_gu_eq, q_g_fne, q_g_cpe, q_w_f, q_v_f, q_u_f, q_fn_f, q_cp_f, q_sg_pg, q_sg_hc, q_lt_t, q_lt_f, q_le_t, q_le_f, q_eq_t, q_eq_f, ne_eq, eq_self, Bool.false_eq_true, Bool.true_eq_false, not_true_eq_false, not_false_eq_true, true_and, and_true, false_and, and_false, true_or, or_true, false_or, or_false, if_true, if_false, Int.reduceAdd, Int.reduceMul, Int.reduceSub, Int.reduceNeg, h1, h2, th, o, q_lc_self, R_0_928, R_0_933, R_0_939, R_0_945, R_0_950, R_0_952, R_0_957, R_0_960, R_0_967, R_0_969, C_0_930, C_0_936, C_0_942]
  · simp (disch := first | omega | exact q_b_01 _) only [↓reduceIte, q_bk0, q_bk1, q_bk2, q_sg_b, q_b_0, q_b_n0, q_b_1, q_b_n1, q_b_T, q_b_F, q_sg_g, q_sg_sg, q_sg_xs, q_sg_id, q_gu_ne, q_gu_eq, q_g_fne, q_g_cpe, q_w_f, q_v_f, q_u_f, q_fn_f, q_cp_f, q_sg_pg, q_sg_hc, q_lt_t, q_lt_f, q_le_t, q_le_f, q_eq_t, q_eq_f, ne_eq, eq_self, Bool.false_eq_true, Bool.true_eq_false, not_true_eq_false, not_false_eq_true, true_and, and_true, false_and, and_false, true_or, or_true, false_or, or_false, if_true, if_false, Int.reduceAdd, Int.reduceMul, Int.reduceSub, Int.reduceNeg, h1, h2, th, hk, R_0_928, R_0_933, R_0_939, R_0_945, R_0_950, R_0_952, R_0_957, R_0_960, R_0_967, R_0_969, C_0_930, C_0_936, C_0_942]
theorem rd_14 (B : Big b s) (hb : b < 1000000) (i0 : 0 ≤ x4) (i1 : x4 + 6 ≤ L) (hL : L < 2147483648) (x5 x6 : Value) : RdE (d + 41) L xs x4 b c 972 x5 x6 s O := by
  obtain ⟨k, v, t, t', O', c', h1, h2, k0, k1, h0, hO, hc, hB, hv⟩ := op_cut (d := d) (L := L) (xs := xs) (O := O) (c := c) B (by omega) (xs_rg xs (x4 + 1)).1 (xs_rg xs (x4 + 1)).2
  dsimp only at h1 h2
  have th := mm_thr (d := d + 40) (L := L) (xs := xs) (O := O') (c := c') h0
  refine ⟨.int (q_I k), .int (q_I v), t', O', c', ?_, hc, Big_mono hB (by omega)⟩
  by_cases hk : k = 0
  · subst hk
    have o := hO rfl
    rcases hv with hv | hv
    · subst hv
      rw [q_I64_0] at o
      simp (disch := first | omega | exact q_b_01 _) only [↓reduceIte, q_bk0, q_bk1, q_bk2, q_sg_b, q_b_0, q_b_n0, q_b_1, q_b_n1, q_b_T, q_b_F, q_sg_g, q_sg_sg, q_sg_xs, q_sg_id, q_gu_ne, q_gu_eq, q_g_fne, q_g_cpe, q_w_f, q_v_f, q_u_f, q_fn_f, q_cp_f, q_sg_pg, q_sg_hc, q_lt_t, q_lt_f, q_le_t, q_le_f, q_eq_t, q_eq_f, ne_eq, eq_self, Bool.false_eq_true, Bool.true_eq_false, not_true_eq_false, not_false_eq_true, true_and, and_true, false_and, and_false, true_or, or_true, false_or, or_false, if_true, if_false, Int.reduceAdd, Int.reduceMul, Int.reduceSub, Int.reduceNeg, h1, h2, th, o, q_lc_self, R_0_972, R_0_979, R_0_983, R_0_995, R_0_1001, R_0_1006, R_0_1008, R_0_1013, R_0_1016, R_0_1021, R_0_1025, R_0_1026, R_0_1030, R_0_1032, C_0_980, C_0_992, C_0_998]
    · subst hv
      rw [q_I64_1] at o
      simp (disch := first | omega | exact q_b_01 _) only [↓reduceIte, q_bk0, q_bk1, q_bk2, q_sg_b, q_b_0, q_b_n0, q_b_1, q_b_n1, q_b_T, q_b_F, q_sg_g, q_sg_sg, q_sg_xs, q_sg_id, q_gu_ne, q_gu_eq, q_g_fne, q_g_cpe, q_w_f, q_v_f, q_u_f, q_fn_f, q_cp_f, q_sg_pg, q_sg_hc, q_lt_t, q_lt_f, q_le_t, q_le_f, q_eq_t, q_eq_f, ne_eq, eq_self, Bool.false_eq_true, Bool.true_eq_false, not_true_eq_false, not_false_eq_true, true_and, and_true, false_and, and_false, true_or, or_true, false_or, or_false, if_true, if_false, Int.reduceAdd, Int.reduceMul, Int.reduceSub, Int.reduceNeg, h1, h2, th, o, q_lc_self, R_0_972, R_0_979, R_0_983, R_0_995, R_0_1001, R_0_1006, R_0_1008, R_0_1013, R_0_1016, R_0_1021, R_0_1025, R_0_1026, R_0_1030, R_0_1032, C_0_980, C_0_992, C_0_998]
  · simp (disch := first | omega | exact q_b_01 _) only [↓reduceIte, q_bk0, q_bk1, q_bk2, q_sg_b, q_b_0, q_b_n0, q_b_1, q_b_n1, q_b_T, q_b_F, q_sg_g, q_sg_sg, q_sg_xs, q_sg_id, q_gu_ne, q_gu_eq, q_g_fne, q_g_cpe, q_w_f, q_v_f, q_u_f, q_fn_f, q_cp_f, q_sg_pg, q_sg_hc, q_lt_t, q_lt_f, q_le_t, q_le_f, q_eq_t, q_eq_f, ne_eq, eq_self, Bool.false_eq_true, Bool.true_eq_false, not_true_eq_false, not_false_eq_true, true_and, and_true, false_and, and_false, true_or, or_true, false_or, or_false, if_true, if_false, Int.reduceAdd, Int.reduceMul, Int.reduceSub, Int.reduceNeg, h1, h2, th, hk, R_0_972, R_0_979, R_0_983, R_0_995, R_0_1001, R_0_1006, R_0_1008, R_0_1013, R_0_1016, R_0_1021, R_0_1025, R_0_1026, R_0_1030, R_0_1032, C_0_980, C_0_992, C_0_998]
theorem rd_15 (B : Big b s) (hb : b < 1000000) (i0 : 0 ≤ x4) (i1 : x4 + 6 ≤ L) (hL : L < 2147483648) (x5 x6 : Value) : RdE (d + 41) L xs x4 b c 1035 x5 x6 s O := by
  obtain ⟨k, v, t, t', O', c', h1, h2, k0, k1, h0, hO, hc, hB, hv⟩ := op_store (d := d) (L := L) (xs := xs) (O := O) (c := c) B (by omega)
  dsimp only at h1 h2
  have th := mm_thr (d := d + 40) (L := L) (xs := xs) (O := O') (c := c') h0
  refine ⟨.int (q_I k), .int (q_I v), t', O', c', ?_, hc, Big_mono hB (by omega)⟩
  by_cases hk : k = 0
  · subst hk
    have o := hO rfl
    rcases hv with hv | hv
    · subst hv
      rw [q_I64_0] at o
      simp (disch := first | omega | exact q_b_01 _) only [↓reduceIte, q_bk0, q_bk1, q_bk2, q_sg_b, q_b_0, q_b_n0, q_b_1, q_b_n1, q_b_T, q_b_F, q_sg_g, q_sg_sg, q_sg_xs, q_sg_id, q_gu_ne, q_gu_eq, q_g_fne, q_g_cpe, q_w_f, q_v_f, q_u_f, q_fn_f, q_cp_f, q_sg_pg, q_sg_hc, q_lt_t, q_lt_f, q_le_t, q_le_f, q_eq_t, q_eq_f, ne_eq, eq_self, Bool.false_eq_true, Bool.true_eq_false, not_true_eq_false, not_false_eq_true, true_and, and_true, false_and, and_false, true_or, or_true, false_or, or_false, if_true, if_false, Int.reduceAdd, Int.reduceMul, Int.reduceSub, Int.reduceNeg, h1, h2, th, o, q_lc_self, R_0_1035, R_0_1040, R_0_1046, R_0_1052, R_0_1057, R_0_1059, R_0_1064, R_0_1067, R_0_1072, R_0_1076, R_0_1077, R_0_1081, R_0_1083, C_0_1037, C_0_1043, C_0_1049]
    · subst hv
      rw [q_I64_1] at o
      simp (disch := first | omega | exact q_b_01 _) only [↓reduceIte, q_bk0, q_bk1, q_bk2, q_sg_b, q_b_0, q_b_n0, q_b_1, q_b_n1, q_b_T, q_b_F, q_sg_g, q_sg_sg, q_sg_xs, q_sg_id, q_gu_ne, q_gu_eq, q_g_fne, q_g_cpe, q_w_f, q_v_f, q_u_f, q_fn_f, q_cp_f, q_sg_pg, q_sg_hc, q_lt_t, q_lt_f, q_le_t, q_le_f, q_eq_t, q_eq_f, ne_eq, eq_self, Bool.false_eq_true, Bool.true_eq_false, not_true_eq_false, not_false_eq_true, true_and, and_true, false_and, and_false, true_or, or_true, false_or, or_false, if_true, if_false, Int.reduceAdd, Int.reduceMul, Int.reduceSub, Int.reduceNeg, h1, h2, th, o, q_lc_self, R_0_1035, R_0_1040, R_0_1046, R_0_1052, R_0_1057, R_0_1059, R_0_1064, R_0_1067, R_0_1072, R_0_1076, R_0_1077, R_0_1081, R_0_1083, C_0_1037, C_0_1043, C_0_1049]
  · simp (disch := first | omega | exact q_b_01 _) only [↓reduceIte, q_bk0, q_bk1, q_bk2, q_sg_b, q_b_0, q_b_n0, q_b_1, q_b_n1, q_b_T, q_b_F, q_sg_g, q_sg_sg, q_sg_xs, q_sg_id, q_gu_ne, q_gu_eq, q_g_fne, q_g_cpe, q_w_f, q_v_f, q_u_f, q_fn_f, q_cp_f, q_sg_pg, q_sg_hc, q_lt_t, q_lt_f, q_le_t, q_le_f, q_eq_t, q_eq_f, ne_eq, eq_self, Bool.false_eq_true, Bool.true_eq_false, not_true_eq_false, not_false_eq_true, true_and, and_true, false_and, and_false, true_or, or_true, false_or, or_false, if_true, if_false, Int.reduceAdd, Int.reduceMul, Int.reduceSub, Int.reduceNeg, h1, h2, th, hk, R_0_1035, R_0_1040, R_0_1046, R_0_1052, R_0_1057, R_0_1059, R_0_1064, R_0_1067, R_0_1072, R_0_1076, R_0_1077, R_0_1081, R_0_1083, C_0_1037, C_0_1043, C_0_1049]
theorem rd_16 (B : Big b s) (hb : b < 1000000) (i0 : 0 ≤ x4) (i1 : x4 + 6 ≤ L) (hL : L < 2147483648) (x5 x6 : Value) : RdE (d + 41) L xs x4 b c 1086 x5 x6 s O := by
  obtain ⟨k, v, t, t', O', c', h1, h2, k0, k1, h0, hO, hc, hB⟩ := op_open (d := d) (L := L) (xs := xs) (O := O) (c := c) B (xs_rg xs (x4 + 1)).1 (xs_rg xs (x4 + 1)).2
  dsimp only at h1 h2
  have th := mm_thr (d := d + 40) (L := L) (xs := xs) (O := O') (c := c') h0
  refine ⟨.int (q_I k), .int (q_I v), t', O', c', ?_, hc, Big_mono hB (by omega)⟩
  by_cases hk : k = 0
  · subst hk
    have o := hO rfl
    simp (disch := first | omega | exact q_b_01 _) only [↓reduceIte, q_bk0, q_bk1, q_bk2, q_sg_b, q_b_0, q_b_n0, q_b_1, q_b_n1, q_b_T, q_b_F, q_sg_g, q_sg_sg, q_sg_xs, q_sg_id, q_gu_ne, q_gu_eq, q_g_fne, q_g_cpe, q_w_f, q_v_f, q_u_f, q_fn_f, q_cp_f, q_sg_pg, q_sg_hc, q_lt_t, q_lt_f, q_le_t, q_le_f, q_eq_t, q_eq_f, ne_eq, eq_self, Bool.false_eq_true, Bool.true_eq_false, not_true_eq_false, not_false_eq_true, true_and, and_true, false_and, and_false, true_or, or_true, false_or, or_false, if_true, if_false, Int.reduceAdd, Int.reduceMul, Int.reduceSub, Int.reduceNeg, h1, h2, th, o, q_lc_self, R_0_1086, R_0_1093, R_0_1097, R_0_1109, R_0_1115, R_0_1120, R_0_1122, R_0_1127, R_0_1130, R_0_1137, R_0_1139, C_0_1094, C_0_1106, C_0_1112]
  · simp (disch := first | omega | exact q_b_01 _) only [↓reduceIte, q_bk0, q_bk1, q_bk2, q_sg_b, q_b_0, q_b_n0, q_b_1, q_b_n1, q_b_T, q_b_F, q_sg_g, q_sg_sg, q_sg_xs, q_sg_id, q_gu_ne, q_gu_eq, q_g_fne, q_g_cpe, q_w_f, q_v_f, q_u_f, q_fn_f, q_cp_f, q_sg_pg, q_sg_hc, q_lt_t, q_lt_f, q_le_t, q_le_f, q_eq_t, q_eq_f, ne_eq, eq_self, Bool.false_eq_true, Bool.true_eq_false, not_true_eq_false, not_false_eq_true, true_and, and_true, false_and, and_false, true_or, or_true, false_or, or_false, if_true, if_false, Int.reduceAdd, Int.reduceMul, Int.reduceSub, Int.reduceNeg, h1, h2, th, hk, R_0_1086, R_0_1093, R_0_1097, R_0_1109, R_0_1115, R_0_1120, R_0_1122, R_0_1127, R_0_1130, R_0_1137, R_0_1139, C_0_1094, C_0_1106, C_0_1112]
theorem rd_17 (B : Big b s) (hb : b < 1000000) (i0 : 0 ≤ x4) (i1 : x4 + 6 ≤ L) (hL : L < 2147483648) (x5 x6 : Value) : RdE (d + 41) L xs x4 b c 1142 x5 x6 s O := by
  obtain ⟨k, v, t, t', O', c', h1, h2, k0, k1, h0, hO, hc, hB⟩ := op_close (d := d) (L := L) (xs := xs) (O := O) (c := c) B (xs_rg xs (x4 + 1)).1 (xs_rg xs (x4 + 1)).2
  dsimp only at h1 h2
  have th := mm_thr (d := d + 40) (L := L) (xs := xs) (O := O') (c := c') h0
  refine ⟨.int (q_I k), .int (q_I v), t', O', c', ?_, hc, Big_mono hB (by omega)⟩
  by_cases hk : k = 0
  · subst hk
    have o := hO rfl
    simp (disch := first | omega | exact q_b_01 _) only [↓reduceIte, q_bk0, q_bk1, q_bk2, q_sg_b, q_b_0, q_b_n0, q_b_1, q_b_n1, q_b_T, q_b_F, q_sg_g, q_sg_sg, q_sg_xs, q_sg_id, q_gu_ne, q_gu_eq, q_g_fne, q_g_cpe, q_w_f, q_v_f, q_u_f, q_fn_f, q_cp_f, q_sg_pg, q_sg_hc, q_lt_t, q_lt_f, q_le_t, q_le_f, q_eq_t, q_eq_f, ne_eq, eq_self, Bool.false_eq_true, Bool.true_eq_false, not_true_eq_false, not_false_eq_true, true_and, and_true, false_and, and_false, true_or, or_true, false_or, or_false, if_true, if_false, Int.reduceAdd, Int.reduceMul, Int.reduceSub, Int.reduceNeg, h1, h2, th, o, q_lc_self, R_0_1142, R_0_1149, R_0_1153, R_0_1165, R_0_1171, R_0_1176, R_0_1178, R_0_1183, R_0_1186, R_0_1193, R_0_1195, C_0_1150, C_0_1162, C_0_1168]
  · simp (disch := first | omega | exact q_b_01 _) only [↓reduceIte, q_bk0, q_bk1, q_bk2, q_sg_b, q_b_0, q_b_n0, q_b_1, q_b_n1, q_b_T, q_b_F, q_sg_g, q_sg_sg, q_sg_xs, q_sg_id, q_gu_ne, q_gu_eq, q_g_fne, q_g_cpe, q_w_f, q_v_f, q_u_f, q_fn_f, q_cp_f, q_sg_pg, q_sg_hc, q_lt_t, q_lt_f, q_le_t, q_le_f, q_eq_t, q_eq_f, ne_eq, eq_self, Bool.false_eq_true, Bool.true_eq_false, not_true_eq_false, not_false_eq_true, true_and, and_true, false_and, and_false, true_or, or_true, false_or, or_false, if_true, if_false, Int.reduceAdd, Int.reduceMul, Int.reduceSub, Int.reduceNeg, h1, h2, th, hk, R_0_1142, R_0_1149, R_0_1153, R_0_1165, R_0_1171, R_0_1176, R_0_1178, R_0_1183, R_0_1186, R_0_1193, R_0_1195, C_0_1150, C_0_1162, C_0_1168]
end RDS
