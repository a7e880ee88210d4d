/-! THE CLASS: a key is put, all of it -/
section CP3
variable {d L : Nat} {xs : Nat → Int32} {s u : Nat → Int → Int32} {O : Nat → Int64} {c : Bool × Nat × Nat} {D : Ar} {N x key v lo hi : Int} {h : Nat} {t : Tr} {Lf : Int → Prop}
theorem LfC_sm {s u : Nat → Int → Int32} (h : LfC s Lf) (e : ∀ z, z < 48 → u 247 z = s 247 z ∧ u 248 z = s 248 z) : LfC u Lf := by
  have g7 : ∀ z, z < 48 → q_g u 247 z = q_g s 247 z := fun z hz => by
    show (u 247 z).toInt = _
    rw [(e z hz).1]
    rfl
  have g8 : ∀ z, z < 48 → q_g u 248 z = q_g s 248 z := fun z hz => by
    show (u 248 z).toInt = _
    rw [(e z hz).2]
    rfl
  exact ⟨fun z z0 z1 => by rw [g8 z z1]; exact h.1 z z0 z1, fun z z0 z1 hz => h.2 z z0 z1 (by rw [← g7 z z1]; exact hz)⟩
theorem cc_putNew (k0 : 0 ≤ key) (k1 : key < 100) (v0 : 0 ≤ v) (v1 : v < 100) (o : Okt t h lo hi) (hh : h ≤ 12) (S : Sub (dC s) (q_g s 242 9) t (q_g s 242 10)) (N48 : 48 ≤ q_g s 242 9) (hN : q_g s 242 9 + mdz key (gPut key v) t + 2 ≤ 176) (hl : LfC s Lf) (hn : ¬ atL key (hasL key) t) : ∃ u, EV (d + 4) 45 0 [.ref 242, .int (q_I (key)), .int (q_I (v)), .null, .null, .null, .null] [] (q_h L xs s O c) = some (.inl none, q_h L xs (u) O c) ∧ Sub (dC u) (q_g u 242 9) (topT (chg key (gPut key v) t)) (q_g u 242 10) ∧ LfC u (fun z => Lf z ∨ WP key t z) ∧ q_g u 242 9 = q_g s 242 9 + mdz key (gPut key v) t + (if tsz (chg key (gPut key v) t) = 5 then 2 else 0) ∧ q_g u 242 11 = 1 ∧ q_g u 242 12 = q_g s 242 12 ∧ ∀ k z, ¬ (242 ≤ k ∧ k ≤ 250) → u k z = s k z := by
  have m0 := mdz_0 (key := key) (g := gPut key v) t
  obtain ⟨u1, u2, y, n, a, b, f1, y0, y1, f2, f3, f4, S2, Sl, n0, n4, fQ, fV, fL, hl2, w8, wW, wS, w11, fr2, fr1, ey⟩ := cc_pre (d := d + 2) (L := L) (xs := xs) (O := O) (c := c) k0 k1 o hh S (by omega) hl
  have xr := S.2.2 _ (Wi_self (dC s) t (q_g s 242 10))
  have hL : ¬ hasL key n a b := fun z => hn ((fQ _).mpr z)
  rw [q_bf hL] at f3
  have pz := plz_ok (n := n) (a := a) (key := key) (by omega)
  have h9 : q_g u2 242 9 = q_g s 242 9 := by
    show (u2 242 9).toInt = _
    rw [fr2 242 9 (by omega) (by omega)]
    rfl
  have hR : q_g u2 244 y = n := (Sub_R1 Sl).2.1
  obtain ⟨u3, e1, e2, e3, e4, e5⟩ := cc_insertAt (d := d + 2) (L := L) (xs := xs) (O := O) (c := c) (s := u2) (x := y) (k := plz n a key) (v := key) (w := v) h9 hR y0 y1 (by omega) pz.1 pz.2.1 (by omega)
  have ug : ∀ k z, k ≠ 244 → k ≠ 245 → k ≠ 246 → q_g u3 k z = q_g u2 k z := fun k z h1 h2 h3 => by
    show (u3 k z).toInt = _
    rw [e5 k h1 h2 h3]
    rfl
  obtain ⟨⟨i1, i2, i3⟩, i4⟩ := dQ_ins (q := 243) (fr := q_g u2 247) (fr' := q_g u3 247) (y := y) (p := plz n a key) (r := n) (v := key) (w := v) (s := u2) (t := u3) pz.1 pz.2.1 (by omega) e2 e3 e4 (e5 243 (by decide) (by decide) (by decide)) (fun z _ => ug 247 z (by decide) (by decide) (by decide))
  have C1 : Chd (dC u2) (q_g u2 242 9) (.lf (-1) n a b) y (dC u3) (q_g u3 242 9) (gPut key v n a b) y := by
    rw [ug 242 9 (by decide) (by decide) (by decide)]
    refine lf_chg Sl i4 (by omega) (by omega) ⟨i1, i2, ug 247 y (by decide) (by decide) (by decide), fun k z0 z1 => ?_⟩
    obtain ⟨j1, j2⟩ := i3 k z0 (by omega)
    try dsimp only [Okt_e1, Okt_e2, atL_e1, atL_e2, WP_e1, WP_e2]
    refine ⟨j1.trans ?_, j2.trans ?_⟩
    · rw [q_sg_id (by omega) (by omega)]
      by_cases c1 : k < plz n a key
      · rw [inz_lt c1, inz_lt c1]
        exact ((Sub_R1 Sl).2.2.2.2.2 k z0 (by omega)).1
      · by_cases c2 : k = plz n a key
        · rw [inz_eq c2, inz_eq c2]
        · rw [inz_gt (by omega), inz_gt (by omega)]
          exact ((Sub_R1 Sl).2.2.2.2.2 (k - 1) (by omega) (by omega)).1
    · rw [q_sg_id (by omega) (by omega)]
      by_cases c1 : k < plz n a key
      · rw [inz_lt c1, inz_lt c1]
        exact ((Sub_R1 Sl).2.2.2.2.2 k z0 (by omega)).2
      · by_cases c2 : k = plz n a key
        · rw [inz_eq c2, inz_eq c2]
        · rw [inz_gt (by omega), inz_gt (by omega)]
          exact ((Sub_R1 Sl).2.2.2.2.2 (k - 1) (by omega) (by omega)).2
  have lc := fL (gPut key v) _ _ C1
  have u39 : q_g u3 242 9 = q_g s 242 9 := by rw [ug 242 9 (by decide) (by decide) (by decide), h9]
  obtain ⟨u4, l1, l2, l3, l4⟩ := cc_putL (d := d) (L := L) (xs := xs) (O := O) (c := c) (s := u3) (g := gPut key v) (v := v) (lf := y) (kk := plz n a key) (hs := 0) (fun n a b n0 n1 => by show 1 ≤ n + 1; omega) (by omega) 0 (q_g s 242 10) (Okt_ren (key := key) o).1 (FWy_ren t) S2 (fun i hi => by rw [Int.zero_add, ug 249 i (by decide) (by decide) (by decide)]; exact wW i hi) (fun i hi => by rw [Int.zero_add, ug 250 i (by decide) (by decide) (by decide)]; exact wS i hi) lc (by rw [mdz_ren]; omega) (by omega) (by omega)
  rw [mdz_ren] at l3
  rw [chg_ren] at l2
  have S4 := l2.1
  have fx : ∀ k z, ¬ (243 ≤ k ∧ k ≤ 250) → ¬ (k = 242 ∧ (z = 8 ∨ z = 9 ∨ z = 11)) → u4 k z = s k z := fun k z h1 h2 => by
    rw [l4.1 k z (by omega) (by omega), e5 k (by omega) (by omega) (by omega), fr2 k z (by omega) (by omega)]
  have x10 : q_g u4 242 10 = q_g s 242 10 := by
    show (u4 242 10).toInt = _
    rw [fx 242 10 (by omega) (by omega)]
    rfl
  have x11 : q_g u4 242 11 = 1 := by rw [FD_g l4 (by omega) (by omega), ug 242 11 (by decide) (by decide) (by decide), w11]
  have x12 : q_g u4 242 12 = q_g s 242 12 := by
    show (u4 242 12).toInt = _
    rw [fx 242 12 (by omega) (by omega)]
    rfl
  have hl4 : LfC u4 (fun z => Lf z ∨ WP key t z) := LfC_sm hl2 (fun z hz => ⟨by rw [l4.2 z hz, e5 247 (by decide) (by decide) (by decide)], by rw [l4.1 248 z (by omega) (by omega), e5 248 (by decide) (by decide) (by decide)]⟩)
  have w0 : q_g u4 249 0 = q_g s 242 10 := by
    rw [FD_g l4 (by omega) (by omega), ug 249 0 (by decide) (by decide) (by decide)]
    have := wW 0 (by omega)
    rw [wyn_0] at this
    exact this
  have u38 : q_g u3 242 8 = (h : Int) + 1 := by rw [ug 242 8 (by decide) (by decide) (by decide), w8]
  have root : q_g s 242 10 ≠ -1 := by omega
  have pre : EV (d + 4) 45 0 [.ref 242, .int (q_I (key)), .int (q_I (v)), .null, .null, .null, .null] [] (q_h L xs s O c) = EV (d + 4) 45 125 [.ref 242, .int (q_I (key)), .int (q_I (v)), .int (q_I (y)), .int (q_I (plz n a key)), .int (q_I (0)), .int (q_I (0))] [] (q_h L xs (u4) O c) := by
    rw [← l1]
    simp (disch := first | omega | exact q_b_01 _) only [↓reduceIte, q_bk0, q_bk1, q_bk2, q_sg_b, q_b_0, q_b_n0, q_b_1, q_b_n1, q_b_T, q_b_F, q_sg_g, q_sg_sg, q_sg_xs, q_sg_id, q_gu_ne, q_gu_eq, q_g_fne, q_g_cpe, q_w_f, q_v_f, q_u_f, q_fn_f, q_cp_f, q_sg_pg, q_sg_hc, q_lt_t, q_lt_f, q_le_t, q_le_f, q_eq_t, q_eq_f, ne_eq, eq_self, Bool.false_eq_true, Bool.true_eq_false, not_true_eq_false, not_false_eq_true, true_and, and_true, false_and, and_false, true_or, or_true, false_or, or_false, if_true, if_false, Int.reduceAdd, Int.reduceMul, Int.reduceSub, Int.reduceNeg, root, f1, f2, f3, f4, e1, u38, R_45_0, R_45_8, R_45_13, R_45_19, R_45_22, R_45_33, R_45_34, R_45_39, R_45_46, R_45_56, R_45_63, R_45_68, R_45_80, R_45_84, R_45_85, R_45_89, R_45_94, R_45_107, R_45_108, R_45_117, R_45_130, R_45_136, R_45_139, R_45_142, C_45_16, C_45_30, C_45_36, C_45_43, C_45_53, C_45_86, C_45_114, C_45_133]
    rw [show (h : Int) + 1 - 1 = 0 + (h : Int) by omega]
  have xr4 := S4.2.2 _ (Wi_self (dC u4) _ (q_g s 242 10))
  by_cases c5 : tsz (chg key (gPut key v) t) = 5
  · rw [if_pos c5]
    obtain ⟨u5, m1, m2, m3, m4, m5, m6⟩ := cc_sp05 (d := d) (L := L) (xs := xs) (O := O) (c := c) (s := u4) S4 c5 rfl (by omega) (by omega) w0
    try dsimp only [Okt_e1, Okt_e2, atL_e1, atL_e2, WP_e1, WP_e2]
    refine ⟨u5, ?_, by rw [m3, m4]; exact m2, LfC_sm hl4 (fun z hz => ⟨m6 z hz, m5 248 z (by omega) (by omega)⟩), by rw [m3, l3, u39], ?_, ?_, fun k z hk => ?_⟩
    · rw [pre, R_45_125]
      simp (disch := first | omega | exact q_b_01 _) only [↓reduceIte, q_bk0, q_bk1, q_bk2, q_sg_b, q_b_0, q_b_n0, q_b_1, q_b_n1, q_b_T, q_b_F, q_sg_g, q_sg_sg, q_sg_xs, q_sg_id, q_gu_ne, q_gu_eq, q_g_fne, q_g_cpe, q_w_f, q_v_f, q_u_f, q_fn_f, q_cp_f, q_sg_pg, q_sg_hc, q_lt_t, q_lt_f, q_le_t, q_le_f, q_eq_t, q_eq_f, ne_eq, eq_self, Bool.false_eq_true, Bool.true_eq_false, not_true_eq_false, not_false_eq_true, true_and, and_true, false_and, and_false, true_or, or_true, false_or, or_false, if_true, if_false, Int.reduceAdd, Int.reduceMul, Int.reduceSub, Int.reduceNeg, m1, R_45_0, R_45_8, R_45_13, R_45_19, R_45_22, R_45_33, R_45_34, R_45_39, R_45_46, R_45_56, R_45_63, R_45_68, R_45_80, R_45_84, R_45_85, R_45_89, R_45_94, R_45_107, R_45_108, R_45_117, R_45_130, R_45_136, R_45_139, R_45_142, C_45_16, C_45_30, C_45_36, C_45_43, C_45_53, C_45_86, C_45_114, C_45_133]
      rw [R_45_125]
      simp (disch := first | omega | exact q_b_01 _) only [↓reduceIte, q_bk0, q_bk1, q_bk2, q_sg_b, q_b_0, q_b_n0, q_b_1, q_b_n1, q_b_T, q_b_F, q_sg_g, q_sg_sg, q_sg_xs, q_sg_id, q_gu_ne, q_gu_eq, q_g_fne, q_g_cpe, q_w_f, q_v_f, q_u_f, q_fn_f, q_cp_f, q_sg_pg, q_sg_hc, q_lt_t, q_lt_f, q_le_t, q_le_f, q_eq_t, q_eq_f, ne_eq, eq_self, Bool.false_eq_true, Bool.true_eq_false, not_true_eq_false, not_false_eq_true, true_and, and_true, false_and, and_false, true_or, or_true, false_or, or_false, if_true, if_false, Int.reduceAdd, Int.reduceMul, Int.reduceSub, Int.reduceNeg, R_45_0, R_45_8, R_45_13, R_45_19, R_45_22, R_45_33, R_45_34, R_45_39, R_45_46, R_45_56, R_45_63, R_45_68, R_45_80, R_45_84, R_45_85, R_45_89, R_45_94, R_45_107, R_45_108, R_45_117, R_45_130, R_45_136, R_45_139, R_45_142, C_45_16, C_45_30, C_45_36, C_45_43, C_45_53, C_45_86, C_45_114, C_45_133]
    · show (u5 242 11).toInt = _
      rw [m5 242 11 (by omega) (by omega)]
      exact x11
    · show (u5 242 12).toInt = _
      rw [m5 242 12 (by omega) (by omega)]
      exact x12
    · rw [m5 k z (by omega) (by omega), fx k z (by omega) (by omega)]
  · rw [if_neg c5]
    have sz := Rep_sz S4.1
    have sp := cc_sp0 (d := d + 3) (L := L) (xs := xs) (O := O) (c := c) (s := u4) w0 xr4.1 (by omega) (by
      have : q_g u4 244 (q_g s 242 10) = tsz (chg key (gPut key v) t) := sz.1
      omega)
    try dsimp only [Okt_e1, Okt_e2, atL_e1, atL_e2, WP_e1, WP_e2]
    refine ⟨u4, ?_, ?_, hl4, by rw [l3, u39]; omega, x11, x12, fun k z hk => fx k z (by omega) (by omega)⟩
    · rw [pre, R_45_125]
      simp (disch := first | omega | exact q_b_01 _) only [↓reduceIte, q_bk0, q_bk1, q_bk2, q_sg_b, q_b_0, q_b_n0, q_b_1, q_b_n1, q_b_T, q_b_F, q_sg_g, q_sg_sg, q_sg_xs, q_sg_id, q_gu_ne, q_gu_eq, q_g_fne, q_g_cpe, q_w_f, q_v_f, q_u_f, q_fn_f, q_cp_f, q_sg_pg, q_sg_hc, q_lt_t, q_lt_f, q_le_t, q_le_f, q_eq_t, q_eq_f, ne_eq, eq_self, Bool.false_eq_true, Bool.true_eq_false, not_true_eq_false, not_false_eq_true, true_and, and_true, false_and, and_false, true_or, or_true, false_or, or_false, if_true, if_false, Int.reduceAdd, Int.reduceMul, Int.reduceSub, Int.reduceNeg, sp, R_45_0, R_45_8, R_45_13, R_45_19, R_45_22, R_45_33, R_45_34, R_45_39, R_45_46, R_45_56, R_45_63, R_45_68, R_45_80, R_45_84, R_45_85, R_45_89, R_45_94, R_45_107, R_45_108, R_45_117, R_45_130, R_45_136, R_45_139, R_45_142, C_45_16, C_45_30, C_45_36, C_45_43, C_45_53, C_45_86, C_45_114, C_45_133]
      rw [R_45_125]
      simp (disch := first | omega | exact q_b_01 _) only [↓reduceIte, q_bk0, q_bk1, q_bk2, q_sg_b, q_b_0, q_b_n0, q_b_1, q_b_n1, q_b_T, q_b_F, q_sg_g, q_sg_sg, q_sg_xs, q_sg_id, q_gu_ne, q_gu_eq, q_g_fne, q_g_cpe, q_w_f, q_v_f, q_u_f, q_fn_f, q_cp_f, q_sg_pg, q_sg_hc, q_lt_t, q_lt_f, q_le_t, q_le_f, q_eq_t, q_eq_f, ne_eq, eq_self, Bool.false_eq_true, Bool.true_eq_false, not_true_eq_false, not_false_eq_true, true_and, and_true, false_and, and_false, true_or, or_true, false_or, or_false, if_true, if_false, Int.reduceAdd, Int.reduceMul, Int.reduceSub, Int.reduceNeg, R_45_0, R_45_8, R_45_13, R_45_19, R_45_22, R_45_33, R_45_34, R_45_39, R_45_46, R_45_56, R_45_63, R_45_68, R_45_80, R_45_84, R_45_85, R_45_89, R_45_94, R_45_107, R_45_108, R_45_117, R_45_130, R_45_136, R_45_139, R_45_142, C_45_16, C_45_30, C_45_36, C_45_43, C_45_53, C_45_86, C_45_114, C_45_133]
    · unfold topT
      rw [if_neg c5, x10]
      exact S4
end CP3
