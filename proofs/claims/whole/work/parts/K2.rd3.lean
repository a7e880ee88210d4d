/-! THE LAW'S ROUND: its calls -/
section RDS
variable {d L : Nat} {xs : Nat → Int32} {s : Nat → Int → Int32} {O : Nat → Int64} {c : Bool × Nat × Nat} {b x4 : Int}
theorem rd_27 (B : Big b s) (hb : b < 1000000) (i0 : 0 ≤ x4) (i1 : x4 + 6 ≤ L) (hL : L < 2147483648) (x5 x6 : Value) : RdE (d + 41) L xs x4 b c 1712 x5 x6 s O := by
  obtain ⟨k, v, t, t', O', c', h1, h2, k0, k1, h0, hO, hc, hB⟩ := op_many (d := d) (L := L) (xs := xs) (O := O) (c := c) B (by omega) (xs_rg xs (x4 + 1)).1 (xs_rg xs (x4 + 1)).2
  dsimp only at h1 h2
  have th := mm_thr (d := d + 40) (L := L) (xs := xs) (O := O') (c := c') h0
  refine ⟨.int (q_I k), .int (q_I v), t', O', c', ?_, hc, Big_mono hB (by omega)⟩
  by_cases hk : k = 0
  · subst hk
    have o := hO rfl
    simp (disch := first | omega | exact q_b_01 _) only [↓reduceIte, q_bk0, q_bk1, q_bk2, q_sg_b, q_b_0, q_b_n0, q_b_1, q_b_n1, q_b_T, q_b_F, q_sg_g, q_sg_sg, q_sg_xs, q_sg_id, q_gu_ne, q_gu_eq, q_g_fne, q_g_cpe, q_w_f, q_v_f, q_u_f, q_fn_f, q_cp_f, q_sg_pg, q_sg_hc, q_lt_t, q_lt_f, q_le_t, q_le_f, q_eq_t, q_eq_f, ne_eq, eq_self, Bool.false_eq_true, Bool.true_eq_false, not_true_eq_false, not_false_eq_true, true_and, and_true, false_and, and_false, true_or, or_true, false_or, or_false, if_true, if_false, Int.reduceAdd, Int.reduceMul, Int.reduceSub, Int.reduceNeg, h1, h2, th, o, q_lc_self, R_0_1712, R_0_1719, R_0_1723, R_0_1735, R_0_1741, R_0_1746, R_0_1748, R_0_1753, R_0_1756, R_0_1763, R_0_1765, C_0_1720, C_0_1732, C_0_1738]
  · simp (disch := first | omega | exact q_b_01 _) only [↓reduceIte, q_bk0, q_bk1, q_bk2, q_sg_b, q_b_0, q_b_n0, q_b_1, q_b_n1, q_b_T, q_b_F, q_sg_g, q_sg_sg, q_sg_xs, q_sg_id, q_gu_ne, q_gu_eq, q_g_fne, q_g_cpe, q_w_f, q_v_f, q_u_f, q_fn_f, q_cp_f, q_sg_pg, q_sg_hc, q_lt_t, q_lt_f, q_le_t, q_le_f, q_eq_t, q_eq_f, ne_eq, eq_self, Bool.false_eq_true, Bool.true_eq_false, not_true_eq_false, not_false_eq_true, true_and, and_true, false_and, and_false, true_or, or_true, false_or, or_false, if_true, if_false, Int.reduceAdd, Int.reduceMul, Int.reduceSub, Int.reduceNeg, h1, h2, th, hk, R_0_1712, R_0_1719, R_0_1723, R_0_1735, R_0_1741, R_0_1746, R_0_1748, R_0_1753, R_0_1756, R_0_1763, R_0_1765, C_0_1720, C_0_1732, C_0_1738]
theorem rd_28 (B : Big b s) (hb : b < 1000000) (i0 : 0 ≤ x4) (i1 : x4 + 6 ≤ L) (hL : L < 2147483648) (x5 x6 : Value) : RdE (d + 41) L xs x4 b c 1768 x5 x6 s O := by
  by_cases hz : q_xs xs (x4 + 1) = 0
  · obtain ⟨v, t, t', h1, h2, h3⟩ := op_precious (d := d) (L := L) (xs := xs) (O := O) (c := c) B (show (0 : Int) = 0 ∨ (0 : Int) = 1 from Or.inl rfl)
    dsimp only at h1 h2
    refine ⟨x5, x6, t', O, c, ?_, Or.inl rfl, Big_mono h3 (by omega)⟩
    simp (disch := first | omega | exact q_b_01 _) only [↓reduceIte, q_bk0, q_bk1, q_bk2, q_sg_b, q_b_0, q_b_n0, q_b_1, q_b_n1, q_b_T, q_b_F, q_sg_g, q_sg_sg, q_sg_xs, q_sg_id, q_gu_ne, q_gu_eq, q_g_fne, q_g_cpe, q_w_f, q_v_f, q_u_f, q_fn_f, q_cp_f, q_sg_pg, q_sg_hc, q_lt_t, q_lt_f, q_le_t, q_le_f, q_eq_t, q_eq_f, ne_eq, eq_self, Bool.false_eq_true, Bool.true_eq_false, not_true_eq_false, not_false_eq_true, true_and, and_true, false_and, and_false, true_or, or_true, false_or, or_false, if_true, if_false, Int.reduceAdd, Int.reduceMul, Int.reduceSub, Int.reduceNeg, hz, h1, h2, R_0_1768, R_0_1775, R_0_1778, R_0_1782, R_0_1786, R_0_1793, R_0_1796, R_0_1800, R_0_1804, R_0_1807, C_0_1783, C_0_1801]
  · obtain ⟨v, t, t', h1, h2, h3⟩ := op_precious (d := d) (L := L) (xs := xs) (O := O) (c := c) B (show (1 : Int) = 0 ∨ (1 : Int) = 1 from Or.inr rfl)
    dsimp only at h1 h2
    refine ⟨x5, x6, t', O, c, ?_, Or.inl rfl, Big_mono h3 (by omega)⟩
    simp (disch := first | omega | exact q_b_01 _) only [↓reduceIte, q_bk0, q_bk1, q_bk2, q_sg_b, q_b_0, q_b_n0, q_b_1, q_b_n1, q_b_T, q_b_F, q_sg_g, q_sg_sg, q_sg_xs, q_sg_id, q_gu_ne, q_gu_eq, q_g_fne, q_g_cpe, q_w_f, q_v_f, q_u_f, q_fn_f, q_cp_f, q_sg_pg, q_sg_hc, q_lt_t, q_lt_f, q_le_t, q_le_f, q_eq_t, q_eq_f, ne_eq, eq_self, Bool.false_eq_true, Bool.true_eq_false, not_true_eq_false, not_false_eq_true, true_and, and_true, false_and, and_false, true_or, or_true, false_or, or_false, if_true, if_false, Int.reduceAdd, Int.reduceMul, Int.reduceSub, Int.reduceNeg, hz, h1, h2, R_0_1768, R_0_1775, R_0_1778, R_0_1782, R_0_1786, R_0_1793, R_0_1796, R_0_1800, R_0_1804, R_0_1807, C_0_1783, C_0_1801]
theorem rd_29 (B : Big b s) (hb : b < 1000000) (i0 : 0 ≤ x4) (i1 : x4 + 6 ≤ L) (hL : L < 2147483648) (x5 x6 : Value) : RdE (d + 41) L xs x4 b c 1809 x5 x6 s O := by
  obtain ⟨k, v, t, t', O', c', h1, h2, k0, k1, h0, hO, hc, hB⟩ := op_seen (d := d) (L := L) (xs := xs) (O := O) (c := c) B
  dsimp only at h1 h2
  have th := mm_thr (d := d + 40) (L := L) (xs := xs) (O := O') (c := c') h0
  refine ⟨.int (q_I k), .int (q_I v), t', O', c', ?_, hc, Big_mono hB (by omega)⟩
  by_cases hk : k = 0
  · subst hk
    have o := hO rfl
    simp (disch := first | omega | exact q_b_01 _) only [↓reduceIte, q_bk0, q_bk1, q_bk2, q_sg_b, q_b_0, q_b_n0, q_b_1, q_b_n1, q_b_T, q_b_F, q_sg_g, q_sg_sg, q_sg_xs, q_sg_id, q_gu_ne, q_gu_eq, q_g_fne, q_g_cpe, q_w_f, q_v_f, q_u_f, q_fn_f, q_cp_f, q_sg_pg, q_sg_hc, q_lt_t, q_lt_f, q_le_t, q_le_f, q_eq_t, q_eq_f, ne_eq, eq_self, Bool.false_eq_true, Bool.true_eq_false, not_true_eq_false, not_false_eq_true, true_and, and_true, false_and, and_false, true_or, or_true, false_or, or_false, if_true, if_false, Int.reduceAdd, Int.reduceMul, Int.reduceSub, Int.reduceNeg, h1, h2, th, o, q_lc_self, R_0_1809, R_0_1814, R_0_1820, R_0_1826, R_0_1831, R_0_1833, R_0_1838, R_0_1841, R_0_1848, R_0_1850, C_0_1811, C_0_1817, C_0_1823]
  · simp (disch := first | omega | exact q_b_01 _) only [↓reduceIte, q_bk0, q_bk1, q_bk2, q_sg_b, q_b_0, q_b_n0, q_b_1, q_b_n1, q_b_T, q_b_F, q_sg_g, q_sg_sg, q_sg_xs, q_sg_id, q_gu_ne, q_gu_eq, q_g_fne, q_g_cpe, q_w_f, q_v_f, q_u_f, q_fn_f, q_cp_f, q_sg_pg, q_sg_hc, q_lt_t, q_lt_f, q_le_t, q_le_f, q_eq_t, q_eq_f, ne_eq, eq_self, Bool.false_eq_true, Bool.true_eq_false, not_true_eq_false, not_false_eq_true, true_and, and_true, false_and, and_false, true_or, or_true, false_or, or_false, if_true, if_false, Int.reduceAdd, Int.reduceMul, Int.reduceSub, Int.reduceNeg, h1, h2, th, hk, R_0_1809, R_0_1814, R_0_1820, R_0_1826, R_0_1831, R_0_1833, R_0_1838, R_0_1841, R_0_1848, R_0_1850, C_0_1811, C_0_1817, C_0_1823]
theorem rd_30 (B : Big b s) (hb : b < 1000000) (i0 : 0 ≤ x4) (i1 : x4 + 6 ≤ L) (hL : L < 2147483648) (x5 x6 : Value) : RdE (d + 41) L xs x4 b c 1853 x5 x6 s O := by
  obtain ⟨k, v, t, t', O', c', h1, h2, k0, k1, h0, hO, hc, hB⟩ := op_likely (d := d) (L := L) (xs := xs) (O := O) (c := c) B
  dsimp only at h1 h2
  have th := mm_thr (d := d + 40) (L := L) (xs := xs) (O := O') (c := c') h0
  refine ⟨.int (q_I k), .int (q_I v), t', O', c', ?_, hc, Big_mono hB (by omega)⟩
  by_cases hk : k = 0
  · subst hk
    have o := hO rfl
    simp (disch := first | omega | exact q_b_01 _) only [↓reduceIte, q_bk0, q_bk1, q_bk2, q_sg_b, q_b_0, q_b_n0, q_b_1, q_b_n1, q_b_T, q_b_F, q_sg_g, q_sg_sg, q_sg_xs, q_sg_id, q_gu_ne, q_gu_eq, q_g_fne, q_g_cpe, q_w_f, q_v_f, q_u_f, q_fn_f, q_cp_f, q_sg_pg, q_sg_hc, q_lt_t, q_lt_f, q_le_t, q_le_f, q_eq_t, q_eq_f, ne_eq, eq_self, Bool.false_eq_true, Bool.true_eq_false, not_true_eq_false, not_false_eq_true, true_and, and_true, false_and, and_false, true_or, or_true, false_or, or_false, if_true, if_false, Int.reduceAdd, Int.reduceMul, Int.reduceSub, Int.reduceNeg, h1, h2, th, o, q_lc_self, R_0_1853, R_0_1858, R_0_1864, R_0_1870, R_0_1875, R_0_1877, R_0_1882, R_0_1885, R_0_1892, R_0_1894, C_0_1855, C_0_1861, C_0_1867]
  · simp (disch := first | omega | exact q_b_01 _) only [↓reduceIte, q_bk0, q_bk1, q_bk2, q_sg_b, q_b_0, q_b_n0, q_b_1, q_b_n1, q_b_T, q_b_F, q_sg_g, q_sg_sg, q_sg_xs, q_sg_id, q_gu_ne, q_gu_eq, q_g_fne, q_g_cpe, q_w_f, q_v_f, q_u_f, q_fn_f, q_cp_f, q_sg_pg, q_sg_hc, q_lt_t, q_lt_f, q_le_t, q_le_f, q_eq_t, q_eq_f, ne_eq, eq_self, Bool.false_eq_true, Bool.true_eq_false, not_true_eq_false, not_false_eq_true, true_and, and_true, false_and, and_false, true_or, or_true, false_or, or_false, if_true, if_false, Int.reduceAdd, Int.reduceMul, Int.reduceSub, Int.reduceNeg, h1, h2, th, hk, R_0_1853, R_0_1858, R_0_1864, R_0_1870, R_0_1875, R_0_1877, R_0_1882, R_0_1885, R_0_1892, R_0_1894, C_0_1855, C_0_1861, C_0_1867]
theorem rd_31 (B : Big b s) (hb : b < 1000000) (i0 : 0 ≤ x4) (i1 : x4 + 6 ≤ L) (hL : L < 2147483648) (x5 x6 : Value) : RdE (d + 41) L xs x4 b c 1897 x5 x6 s O := by
  obtain ⟨k, v, t, t', O', c', h1, h2, k0, k1, h0, hO, hc, hB⟩ := op_look (d := d) (L := L) (xs := xs) (O := O) (c := c) B
  dsimp only at h1 h2
  have th := mm_thr (d := d + 40) (L := L) (xs := xs) (O := O') (c := c') h0
  refine ⟨.int (q_I k), .int (q_I v), t', O', c', ?_, hc, Big_mono hB (by omega)⟩
  by_cases hk : k = 0
  · subst hk
    have o := hO rfl
    simp (disch := first | omega | exact q_b_01 _) only [↓reduceIte, q_bk0, q_bk1, q_bk2, q_sg_b, q_b_0, q_b_n0, q_b_1, q_b_n1, q_b_T, q_b_F, q_sg_g, q_sg_sg, q_sg_xs, q_sg_id, q_gu_ne, q_gu_eq, q_g_fne, q_g_cpe, q_w_f, q_v_f, q_u_f, q_fn_f, q_cp_f, q_sg_pg, q_sg_hc, q_lt_t, q_lt_f, q_le_t, q_le_f, q_eq_t, q_eq_f, ne_eq, eq_self, Bool.false_eq_true, Bool.true_eq_false, not_true_eq_false, not_false_eq_true, true_and, and_true, false_and, and_false, true_or, or_true, false_or, or_false, if_true, if_false, Int.reduceAdd, Int.reduceMul, Int.reduceSub, Int.reduceNeg, h1, h2, th, o, q_lc_self, R_0_1897, R_0_1902, R_0_1908, R_0_1914, R_0_1919, R_0_1921, R_0_1926, R_0_1929, R_0_1936, R_0_1938, C_0_1899, C_0_1905, C_0_1911]
  · simp (disch := first | omega | exact q_b_01 _) only [↓reduceIte, q_bk0, q_bk1, q_bk2, q_sg_b, q_b_0, q_b_n0, q_b_1, q_b_n1, q_b_T, q_b_F, q_sg_g, q_sg_sg, q_sg_xs, q_sg_id, q_gu_ne, q_gu_eq, q_g_fne, q_g_cpe, q_w_f, q_v_f, q_u_f, q_fn_f, q_cp_f, q_sg_pg, q_sg_hc, q_lt_t, q_lt_f, q_le_t, q_le_f, q_eq_t, q_eq_f, ne_eq, eq_self, Bool.false_eq_true, Bool.true_eq_false, not_true_eq_false, not_false_eq_true, true_and, and_true, false_and, and_false, true_or, or_true, false_or, or_false, if_true, if_false, Int.reduceAdd, Int.reduceMul, Int.reduceSub, Int.reduceNeg, h1, h2, th, hk, R_0_1897, R_0_1902, R_0_1908, R_0_1914, R_0_1919, R_0_1921, R_0_1926, R_0_1929, R_0_1936, R_0_1938, C_0_1899, C_0_1905, C_0_1911]
theorem rd_32 (B : Big b s) (hb : b < 1000000) (i0 : 0 ≤ x4) (i1 : x4 + 6 ≤ L) (hL : L < 2147483648) (x5 x6 : Value) : RdE (d + 41) L xs x4 b c 1941 x5 x6 s O := by
  obtain ⟨k, v, t, t', O', c', h1, h2, k0, k1, h0, hO, hc, hB⟩ := op_pairs (d := d) (L := L) (xs := xs) (O := O) (c := c) B (xs_rg xs (x4 + 1)).1 (xs_rg xs (x4 + 1)).2
  dsimp only at h1 h2
  have th := mm_thr (d := d + 40) (L := L) (xs := xs) (O := O') (c := c') h0
  refine ⟨.int (q_I k), .int (q_I v), t', O', c', ?_, hc, Big_mono hB (by omega)⟩
  by_cases hk : k = 0
  · subst hk
    have o := hO rfl
    simp (disch := first | omega | exact q_b_01 _) only [↓reduceIte, q_bk0, q_bk1, q_bk2, q_sg_b, q_b_0, q_b_n0, q_b_1, q_b_n1, q_b_T, q_b_F, q_sg_g, q_sg_sg, q_sg_xs, q_sg_id, q_gu_ne, q_gu_eq, q_g_fne, q_g_cpe, q_w_f, q_v_f, q_u_f, q_fn_f, q_cp_f, q_sg_pg, q_sg_hc, q_lt_t, q_lt_f, q_le_t, q_le_f, q_eq_t, q_eq_f, ne_eq, eq_self, Bool.false_eq_true, Bool.true_eq_false, not_true_eq_false, not_false_eq_true, true_and, and_true, false_and, and_false, true_or, or_true, false_or, or_false, if_true, if_false, Int.reduceAdd, Int.reduceMul, Int.reduceSub, Int.reduceNeg, h1, h2, th, o, q_lc_self, R_0_1941, R_0_1948, R_0_1952, R_0_1964, R_0_1970, R_0_1975, R_0_1977, R_0_1982, R_0_1985, R_0_1992, R_0_1994, C_0_1949, C_0_1961, C_0_1967]
  · simp (disch := first | omega | exact q_b_01 _) only [↓reduceIte, q_bk0, q_bk1, q_bk2, q_sg_b, q_b_0, q_b_n0, q_b_1, q_b_n1, q_b_T, q_b_F, q_sg_g, q_sg_sg, q_sg_xs, q_sg_id, q_gu_ne, q_gu_eq, q_g_fne, q_g_cpe, q_w_f, q_v_f, q_u_f, q_fn_f, q_cp_f, q_sg_pg, q_sg_hc, q_lt_t, q_lt_f, q_le_t, q_le_f, q_eq_t, q_eq_f, ne_eq, eq_self, Bool.false_eq_true, Bool.true_eq_false, not_true_eq_false, not_false_eq_true, true_and, and_true, false_and, and_false, true_or, or_true, false_or, or_false, if_true, if_false, Int.reduceAdd, Int.reduceMul, Int.reduceSub, Int.reduceNeg, h1, h2, th, hk, R_0_1941, R_0_1948, R_0_1952, R_0_1964, R_0_1970, R_0_1975, R_0_1977, R_0_1982, R_0_1985, R_0_1992, R_0_1994, C_0_1949, C_0_1961, C_0_1967]
theorem rd_33 (B : Big b s) (hb : b < 1000000) (i0 : 0 ≤ x4) (i1 : x4 + 6 ≤ L) (hL : L < 2147483648) (x5 x6 : Value) : RdE (d + 41) L xs x4 b c 1997 x5 x6 s O := by
  obtain ⟨k, v, t, t', O', c', h1, h2, k0, k1, h0, hO, hc, hB⟩ := op_share (d := d) (L := L) (xs := xs) (O := O) (c := c) B (xs_rg xs (x4 + 1)).1 (xs_rg xs (x4 + 1)).2 (xs_rg xs (x4 + 2)).1 (xs_rg xs (x4 + 2)).2
  dsimp only at h1 h2
  have th := mm_thr (d := d + 40) (L := L) (xs := xs) (O := O') (c := c') h0
  refine ⟨.int (q_I k), .int (q_I v), t', O', c', ?_, hc, Big_mono hB (by omega)⟩
  by_cases hk : k = 0
  · subst hk
    have o := hO rfl
    simp (disch := first | omega | exact q_b_01 _) only [↓reduceIte, q_bk0, q_bk1, q_bk2, q_sg_b, q_b_0, q_b_n0, q_b_1, q_b_n1, q_b_T, q_b_F, q_sg_g, q_sg_sg, q_sg_xs, q_sg_id, q_gu_ne, q_gu_eq, q_g_fne, q_g_cpe, q_w_f, q_v_f, q_u_f, q_fn_f, q_cp_f, q_sg_pg, q_sg_hc, q_lt_t, q_lt_f, q_le_t, q_le_f, q_eq_t, q_eq_f, ne_eq, eq_self, Bool.false_eq_true, Bool.true_eq_false, not_true_eq_false, not_false_eq_true, true_and, and_true, false_and, and_false, true_or, or_true, false_or, or_false, if_true, if_false, Int.reduceAdd, Int.reduceMul, Int.reduceSub, Int.reduceNeg, h1, h2, th, o, q_lc_self, R_0_1997, R_0_2004, R_0_2010, R_0_2014, R_0_2023, R_0_2032, R_0_2038, R_0_2043, R_0_2045, R_0_2050, R_0_2053, R_0_2060, R_0_2062, C_0_2011, C_0_2029, C_0_2035]
  · simp (disch := first | omega | exact q_b_01 _) only [↓reduceIte, q_bk0, q_bk1, q_bk2, q_sg_b, q_b_0, q_b_n0, q_b_1, q_b_n1, q_b_T, q_b_F, q_sg_g, q_sg_sg, q_sg_xs, q_sg_id, q_gu_ne, q_gu_eq, q_g_fne, q_g_cpe, q_w_f, q_v_f, q_u_f, q_fn_f, q_cp_f, q_sg_pg, q_sg_hc, q_lt_t, q_lt_f, q_le_t, q_le_f, q_eq_t, q_eq_f, ne_eq, eq_self, Bool.false_eq_true, Bool.true_eq_false, not_true_eq_false, not_false_eq_true, true_and, and_true, false_and, and_false, true_or, or_true, false_or, or_false, if_true, if_false, Int.reduceAdd, Int.reduceMul, Int.reduceSub, Int.reduceNeg, h1, h2, th, hk, R_0_1997, R_0_2004, R_0_2010, R_0_2014, R_0_2023, R_0_2032, R_0_2038, R_0_2043, R_0_2045, R_0_2050, R_0_2053, R_0_2060, R_0_2062, C_0_2011, C_0_2029, C_0_2035]
theorem rd_34 (B : Big b s) (hb : b < 1000000) (i0 : 0 ≤ x4) (i1 : x4 + 6 ≤ L) (hL : L < 2147483648) (x5 x6 : Value) : RdE (d + 41) L xs x4 b c 2065 x5 x6 s O := by
  obtain ⟨v, t, t', h1, h2, h3⟩ := op_rests (d := d) (L := L) (xs := xs) (O := O) (c := c) B
  dsimp only at h1 h2
  refine ⟨x5, x6, t', O, c, ?_, Or.inl rfl, Big_mono h3 (by omega)⟩
  simp (disch := first | omega | exact q_b_01 _) only [↓reduceIte, q_bk0, q_bk1, q_bk2, q_sg_b, q_b_0, q_b_n0, q_b_1, q_b_n1, q_b_T, q_b_F, q_sg_g, q_sg_sg, q_sg_xs, q_sg_id, q_gu_ne, q_gu_eq, q_g_fne, q_g_cpe, q_w_f, q_v_f, q_u_f, q_fn_f, q_cp_f, q_sg_pg, q_sg_hc, q_lt_t, q_lt_f, q_le_t, q_le_f, q_eq_t, q_eq_f, ne_eq, eq_self, Bool.false_eq_true, Bool.true_eq_false, not_true_eq_false, not_false_eq_true, true_and, and_true, false_and, and_false, true_or, or_true, false_or, or_false, if_true, if_false, Int.reduceAdd, Int.reduceMul, Int.reduceSub, Int.reduceNeg, h1, h2, R_0_2065, R_0_2069, R_0_2073, R_0_2076, C_0_2066, C_0_2070]
theorem rd_35 (B : Big b s) (hb : b < 1000000) (i0 : 0 ≤ x4) (i1 : x4 + 6 ≤ L) (hL : L < 2147483648) (x5 x6 : Value) : RdE (d + 41) L xs x4 b c 2078 x5 x6 s O := by
  obtain ⟨k, v, t, t', O', c', h1, h2, k0, k1, h0, hO, hc, hB⟩ := op_most (d := d) (L := L) (xs := xs) (O := O) (c := c) B (xs_rg xs (x4 + 1)).1 (xs_rg xs (x4 + 1)).2
  dsimp only at h1 h2
  have th := mm_thr (d := d + 40) (L := L) (xs := xs) (O := O') (c := c') h0
  refine ⟨.int (q_I k), .int (q_I v), t', O', c', ?_, hc, Big_mono hB (by omega)⟩
  by_cases hk : k = 0
  · subst hk
    have o := hO rfl
    simp (disch := first | omega | exact q_b_01 _) only [↓reduceIte, q_bk0, q_bk1, q_bk2, q_sg_b, q_b_0, q_b_n0, q_b_1, q_b_n1, q_b_T, q_b_F, q_sg_g, q_sg_sg, q_sg_xs, q_sg_id, q_gu_ne, q_gu_eq, q_g_fne, q_g_cpe, q_w_f, q_v_f, q_u_f, q_fn_f, q_cp_f, q_sg_pg, q_sg_hc, q_lt_t, q_lt_f, q_le_t, q_le_f, q_eq_t, q_eq_f, ne_eq, eq_self, Bool.false_eq_true, Bool.true_eq_false, not_true_eq_false, not_false_eq_true, true_and, and_true, false_and, and_false, true_or, or_true, false_or, or_false, if_true, if_false, Int.reduceAdd, Int.reduceMul, Int.reduceSub, Int.reduceNeg, h1, h2, th, o, q_lc_self, R_0_2078, R_0_2085, R_0_2089, R_0_2101, R_0_2107, R_0_2112, R_0_2114, R_0_2119, R_0_2122, R_0_2129, R_0_2131, C_0_2086, C_0_2098, C_0_2104]
  · simp (disch := first | omega | exact q_b_01 _) only [↓reduceIte, q_bk0, q_bk1, q_bk2, q_sg_b, q_b_0, q_b_n0, q_b_1, q_b_n1, q_b_T, q_b_F, q_sg_g, q_sg_sg, q_sg_xs, q_sg_id, q_gu_ne, q_gu_eq, q_g_fne, q_g_cpe, q_w_f, q_v_f, q_u_f, q_fn_f, q_cp_f, q_sg_pg, q_sg_hc, q_lt_t, q_lt_f, q_le_t, q_le_f, q_eq_t, q_eq_f, ne_eq, eq_self, Bool.false_eq_true, Bool.true_eq_false, not_true_eq_false, not_false_eq_true, true_and, and_true, false_and, and_false, true_or, or_true, false_or, or_false, if_true, if_false, Int.reduceAdd, Int.reduceMul, Int.reduceSub, Int.reduceNeg, h1, h2, th, hk, R_0_2078, R_0_2085, R_0_2089, R_0_2101, R_0_2107, R_0_2112, R_0_2114, R_0_2119, R_0_2122, R_0_2129, R_0_2131, C_0_2086, C_0_2098, C_0_2104]
end RDS
