/-! THE CLASS: a key is removed -/
section CR2
variable {d L : Nat} {xs : Nat → Int32} {s u : Nat → Int → Int32} {O : Nat → Int64} {c : Bool × Nat × Nat} {key : Int} {h : Nat} {t : Tr} {Lf : Int → Prop}
theorem cc_remNone (hr : q_g s 242 10 = -1) : EV (d + 4) 46 0 [.ref 242, .int (q_I (key)), .null, .null, .null, .null] [] (q_h L xs s O c) = some (.inl none, q_h L xs (s) O c) := by
  have isn := cc_isNode (d := d + 2) (L := L) (xs := xs) (O := O) (c := c) (s := s) (x := -1) (n := q_g s 242 9) rfl
  rw [q_sg_id (by omega) (by omega), q_bf (by omega)] at isn
  have pl : EV (d + 3) 49 0 [.ref 242, .int (q_I (-1)), .int (q_I (key)), .null] [] (q_h L xs s O c) = some (.inl (some (.int (q_I (0)))), q_h L xs (s) O c) := by
    simp (disch := first | omega | exact q_b_01 _) only [↓reduceIte, q_bk0, q_bk1, q_bk2, q_sg_b, q_b_0, q_b_n0, q_b_1, q_b_n1, q_b_T, q_b_F, q_sg_g, q_sg_sg, q_sg_xs, q_sg_id, q_gu_ne, q_gu_eq, q_g_fne, q_g_cpe, q_w_f, q_v_f, q_u_f, q_fn_f, q_cp_f, q_sg_pg, q_sg_hc, q_lt_t, q_lt_f, q_le_t, q_le_f, q_eq_t, q_eq_f, ne_eq, eq_self, Bool.false_eq_true, Bool.true_eq_false, not_true_eq_false, not_false_eq_true, true_and, and_true, false_and, and_false, true_or, or_true, false_or, or_false, if_true, if_false, Int.reduceAdd, Int.reduceMul, Int.reduceSub, Int.reduceNeg, isn, R_49_0, R_49_5, R_49_8, R_49_10, R_49_19, R_49_22, R_49_28, R_49_39, R_49_43, R_49_49, C_49_2]
  simp (disch := first | omega | exact q_b_01 _) only [↓reduceIte, q_bk0, q_bk1, q_bk2, q_sg_b, q_b_0, q_b_n0, q_b_1, q_b_n1, q_b_T, q_b_F, q_sg_g, q_sg_sg, q_sg_xs, q_sg_id, q_gu_ne, q_gu_eq, q_g_fne, q_g_cpe, q_w_f, q_v_f, q_u_f, q_fn_f, q_cp_f, q_sg_pg, q_sg_hc, q_lt_t, q_lt_f, q_le_t, q_le_f, q_eq_t, q_eq_f, ne_eq, eq_self, Bool.false_eq_true, Bool.true_eq_false, not_true_eq_false, not_false_eq_true, true_and, and_true, false_and, and_false, true_or, or_true, false_or, or_false, if_true, if_false, Int.reduceAdd, Int.reduceMul, Int.reduceSub, Int.reduceNeg, hr, pl, R_46_0, R_46_8, R_46_12, R_46_17, R_46_24, R_46_30, R_46_37, R_46_40, R_46_41, R_46_45, R_46_51, R_46_64, R_46_71, R_46_80, R_46_83, R_46_93, R_46_105, R_46_108, R_46_121, R_46_133, R_46_144, R_46_145, R_46_148, R_46_151, R_46_160, R_46_163, R_46_168, R_46_172, C_46_14, C_46_21, C_46_34, C_46_42, C_46_48, C_46_102, C_46_169]
theorem cc_remNo (k0 : 0 ≤ key) (k1 : key < 100) {lo hi : Int} (o : Okt t h lo hi) (hh : h ≤ 12) (S : Sub (dC s) (q_g s 242 9) t (q_g s 242 10)) (hN : q_g s 242 9 ≤ 176) (hl : LfC s Lf) (hn : ¬ atL key (hasL key) t) : ∃ u, EV (d + 4) 46 0 [.ref 242, .int (q_I (key)), .null, .null, .null, .null] [] (q_h L xs s O c) = some (.inl none, q_h L xs (u) O c) ∧ ∀ k z, k ≠ 249 → k ≠ 250 → ¬ (k = 242 ∧ z = 8) → u k z = s k z := by
  obtain ⟨u1, u2, y, n, a, b, f1, y0, y1, f2, f3, f4, S2, Sl, n0, n4, fQ, fV, fL, hl2, w8, wW, wS, w11, fr2, fr1, ey⟩ := cc_pre (d := d + 2) (L := L) (xs := xs) (O := O) (c := c) k0 k1 o hh S hN hl
  have xr := S.2.2 _ (Wi_self (dC s) t (q_g s 242 10))
  rw [q_bf (fun z => hn ((fQ _).mpr z))] at f3
  have root : q_g s 242 10 ≠ -1 := by omega
  refine ⟨u1, ?_, fr1⟩
  simp (disch := first | omega | exact q_b_01 _) only [↓reduceIte, q_bk0, q_bk1, q_bk2, q_sg_b, q_b_0, q_b_n0, q_b_1, q_b_n1, q_b_T, q_b_F, q_sg_g, q_sg_sg, q_sg_xs, q_sg_id, q_gu_ne, q_gu_eq, q_g_fne, q_g_cpe, q_w_f, q_v_f, q_u_f, q_fn_f, q_cp_f, q_sg_pg, q_sg_hc, q_lt_t, q_lt_f, q_le_t, q_le_f, q_eq_t, q_eq_f, ne_eq, eq_self, Bool.false_eq_true, Bool.true_eq_false, not_true_eq_false, not_false_eq_true, true_and, and_true, false_and, and_false, true_or, or_true, false_or, or_false, if_true, if_false, Int.reduceAdd, Int.reduceMul, Int.reduceSub, Int.reduceNeg, root, f1, f2, f3, R_46_0, R_46_8, R_46_12, R_46_17, R_46_24, R_46_30, R_46_37, R_46_40, R_46_41, R_46_45, R_46_51, R_46_64, R_46_71, R_46_80, R_46_83, R_46_93, R_46_105, R_46_108, R_46_121, R_46_133, R_46_144, R_46_145, R_46_148, R_46_151, R_46_160, R_46_163, R_46_168, R_46_172, C_46_14, C_46_21, C_46_34, C_46_42, C_46_48, C_46_102, C_46_169]
theorem cc_remHas (k0 : 0 ≤ key) (k1 : key < 100) (o : Okt t h 0 100) (hh : h ≤ 12) (S : Sub (dC s) (q_g s 242 9) t (q_g s 242 10)) (N48 : 48 ≤ q_g s 242 9) (hN : q_g s 242 9 ≤ 176) (hl : LfC s Lf) (hn : atL key (hasL key) t) : ∃ u, EV (d + 4) 46 0 [.ref 242, .int (q_I (key)), .null, .null, .null, .null] [] (q_h L xs s O c) = some (.inl none, q_h L xs (u) O c) ∧ (tsz (chg key (gDel key) t) = 0 → q_g u 242 10 = -1) ∧ (tsz (chg key (gDel key) t) ≠ 0 → Sub (dC u) (q_g u 242 9) (lowT (chg key (gDel key) t)) (q_g u 242 10)) ∧ LfC u (fun z => (Lf z ∨ WP key t z) ∨ LPg (chg key (gDel key) t) z) ∧ q_g u 242 9 = q_g s 242 9 ∧ q_g u 242 11 = 1 ∧ q_g u 242 12 = q_g s 242 12 ∧ ∀ k z, ¬ (242 ≤ k ∧ k ≤ 250) → u k z = s k z := by
  obtain ⟨u1, u2, y, n, a, b, f1, y0, y1, f2, f3, f4, S2, Sl, n0, n4, fQ, fV, fL, hl2, w8, wW, wS, w11, fr2, fr1, ey⟩ := cc_pre (d := d + 2) (L := L) (xs := xs) (O := O) (c := c) k0 k1 o hh S hN hl
  have xr := S.2.2 _ (Wi_self (dC s) t (q_g s 242 10))
  have hL : hasL key n a b := (fQ _).mp hn
  rw [q_bt hL] at f3
  have pz := plz_ok (n := n) (a := a) (key := key) (by omega)
  have h9 : q_g u2 242 9 = q_g s 242 9 := by
    show (u2 242 9).toInt = _
    rw [fr2 242 9 (by omega) (by omega)]
    rfl
  have hR : q_g u2 244 y = n := (Sub_R1 Sl).2.1
  obtain ⟨u3, e1, e2, e3, e4, e5⟩ := cc_deleteAt (d := d + 2) (L := L) (xs := xs) (O := O) (c := c) (s := u2) (x := y) (k := plz n a key) h9 hR y0 y1 (by omega) pz.1 hL.1 (by omega)
  have ug : ∀ k z, k ≠ 244 → k ≠ 245 → k ≠ 246 → q_g u3 k z = q_g u2 k z := fun k z h1 h2 h3 => by
    show (u3 k z).toInt = _
    rw [e5 k h1 h2 h3]
    rfl
  obtain ⟨dd, de⟩ := dQ_del (q := 243) (fr := q_g u2 247) (y := y) (p := plz n a key) (r := n) (s := u2) (t := u3) pz.1 hL.1 (by omega) e2 e3 e4 (e5 243 (by decide) (by decide) (by decide))
  have ef : q_g u3 247 = q_g u2 247 := funext fun z => ug 247 z (by decide) (by decide) (by decide)
  have eD : dC u3 = dQ 243 (q_g u2 247) u3 := by rw [dC_Q, ef]
  have C1 : Chd (dC u2) (q_g u2 242 9) (.lf (-1) n a b) y (dC u3) (q_g u3 242 9) (gDel key n a b) y := by
    rw [ug 242 9 (by decide) (by decide) (by decide), eD]
    refine lf_chg Sl de (by omega) (by omega) ⟨dd.1, dd.2.1, rfl, fun k z0 z1 => ?_⟩
    obtain ⟨j1, j2⟩ := dd.2.2 k z0 z1
    try dsimp only [Okt_e1, Okt_e2, atL_e1, atL_e2, WP_e1, WP_e2, LPg_e1, LPg_e2]
    refine ⟨j1.trans ?_, j2.trans ?_⟩
    · by_cases c1 : k < plz n a key
      · rw [dlz_lt c1, dlz_lt c1]
        exact ((Sub_R1 Sl).2.2.2.2.2 k z0 (by omega)).1
      · rw [dlz_ge (by omega), dlz_ge (by omega)]
        exact ((Sub_R1 Sl).2.2.2.2.2 (k + 1) (by omega) (by omega)).1
    · by_cases c1 : k < plz n a key
      · rw [dlz_lt c1, dlz_lt c1]
        exact ((Sub_R1 Sl).2.2.2.2.2 k z0 (by omega)).2
      · rw [dlz_ge (by omega), dlz_ge (by omega)]
        exact ((Sub_R1 Sl).2.2.2.2.2 (k + 1) (by omega) (by omega)).2
  have lc := fL (gDel key) _ _ C1
  have u39 : q_g u3 242 9 = q_g s 242 9 := by rw [ug 242 9 (by decide) (by decide) (by decide), h9]
  obtain ⟨u4, y6, l1, l2, l3, l4⟩ := cc_remL (d := d) (L := L) (xs := xs) (O := O) (c := c) (s := u3) (key := key) (lf := y) (kk := plz n a key) (by omega) (by omega) 0 (q_g s 242 10) .null (Okt_ren (key := key) o).1 (FWy_ren t) S2 (fun i hi => by rw [Int.zero_add, ug 249 i (by decide) (by decide) (by decide)]; exact wW i hi) (fun i hi => by rw [Int.zero_add, ug 250 i (by decide) (by decide) (by decide)]; exact wS i hi) lc (by omega) (by omega)
  rw [chg_ren] at l2
  have S4 := l2.1
  have fx : ∀ k z, ¬ (243 ≤ k ∧ k ≤ 250) → ¬ (k = 242 ∧ (z = 8 ∨ z = 9 ∨ z = 11)) → u4 k z = s k z := fun k z h1 h2 => by
    rw [l4.1 k z (by omega) (by omega), e5 k (by omega) (by omega) (by omega), fr2 k z (by omega) (by omega)]
  have x10 : q_g u4 242 10 = q_g s 242 10 := by
    show (u4 242 10).toInt = _
    rw [fx 242 10 (by omega) (by omega)]
    rfl
  have x11 : q_g u4 242 11 = 1 := by rw [FD_g l4 (by omega) (by omega), ug 242 11 (by decide) (by decide) (by decide), w11]
  have x12 : q_g u4 242 12 = q_g s 242 12 := by
    show (u4 242 12).toInt = _
    rw [fx 242 12 (by omega) (by omega)]
    rfl
  have hl4 : LfC u4 (fun z => Lf z ∨ WP key t z) := LfC_sm hl2 (fun z hz => ⟨by rw [l4.2 z hz, e5 247 (by decide) (by decide) (by decide)], by rw [l4.1 248 z (by omega) (by omega), e5 248 (by decide) (by decide) (by decide)]⟩)
  have u38 : q_g u3 242 8 = (h : Int) + 1 := by rw [ug 242 8 (by decide) (by decide) (by decide), w8]
  have root : q_g s 242 10 ≠ -1 := by omega
  have xr4 := S4.2.2 _ (Wi_self (dC u4) _ (q_g s 242 10))
  have sz := Rep_sz S4.1
  have szR : q_g u4 244 (q_g s 242 10) = tsz (chg key (gDel key) t) := sz.1
  have pre : EV (d + 4) 46 0 [.ref 242, .int (q_I (key)), .null, .null, .null, .null] [] (q_h L xs s O c) = EV (d + 4) 46 59 [.ref 242, .int (q_I (key)), .int (q_I (y)), .int (q_I (plz n a key)), .int (q_I (0)), y6] [] (q_h L xs (u4) O c) := by
    rw [← l1]
    simp (disch := first | omega | exact q_b_01 _) only [↓reduceIte, q_bk0, q_bk1, q_bk2, q_sg_b, q_b_0, q_b_n0, q_b_1, q_b_n1, q_b_T, q_b_F, q_sg_g, q_sg_sg, q_sg_xs, q_sg_id, q_gu_ne, q_gu_eq, q_g_fne, q_g_cpe, q_w_f, q_v_f, q_u_f, q_fn_f, q_cp_f, q_sg_pg, q_sg_hc, q_lt_t, q_lt_f, q_le_t, q_le_f, q_eq_t, q_eq_f, ne_eq, eq_self, Bool.false_eq_true, Bool.true_eq_false, not_true_eq_false, not_false_eq_true, true_and, and_true, false_and, and_false, true_or, or_true, false_or, or_false, if_true, if_false, Int.reduceAdd, Int.reduceMul, Int.reduceSub, Int.reduceNeg, root, f1, f2, f3, f4, e1, u38, R_46_0, R_46_8, R_46_12, R_46_17, R_46_24, R_46_30, R_46_37, R_46_40, R_46_41, R_46_45, R_46_51, R_46_64, R_46_71, R_46_80, R_46_83, R_46_93, R_46_105, R_46_108, R_46_121, R_46_133, R_46_144, R_46_145, R_46_148, R_46_151, R_46_160, R_46_163, R_46_168, R_46_172, C_46_14, C_46_21, C_46_34, C_46_42, C_46_48, C_46_102, C_46_169]
    rw [show (h : Int) + 1 - 1 = 0 + (h : Int) by omega]
  have okR := chg_ok (key := key) (g := gDel key) (Q := hasL key) gDel_ok o k0 k1 hn
  obtain ⟨z4, -⟩ := chg_del_sz (key := key) o
  by_cases c0 : tsz (chg key (gDel key) t) = 0
  · have nl : ∀ z, ¬ LPg (chg key (gDel key) t) z := fun z hz => by
      generalize chg key (gDel key) t = t' at *
      cases t' using Tr_cs with
      | lf p n a b =>
        exact hz
      | br p n a cc =>
        try dsimp only [Okt_e1, Okt_e2, atL_e1, atL_e2, WP_e1, WP_e2, LPg_e1, LPg_e2] at *
        have e : n = 0 := c0
        have := hz.1
        omega
    have isn := cc_isNode (d := d + 2) (L := L) (xs := xs) (O := O) (c := c) (s := q_u u4 242 10 (-1)) (x := -1) (n := q_g (q_u u4 242 10 (-1)) 242 9) rfl
    rw [q_sg_id (by omega) (by omega), q_bf (by omega)] at isn
    have g10 : q_g (q_u u4 242 10 (-1)) 242 10 = -1 := by rw [q_gu_eq rfl]; rfl
    have low : EV (d + 3) 53 0 [.ref 242, .null] [] (q_h L xs (q_u u4 242 10 (-1)) O c) = some (.inl none, q_h L xs (q_u u4 242 10 (-1)) O c) := by
      simp (disch := first | omega | exact q_b_01 _) only [↓reduceIte, q_bk0, q_bk1, q_bk2, q_sg_b, q_b_0, q_b_n0, q_b_1, q_b_n1, q_b_T, q_b_F, q_sg_g, q_sg_sg, q_sg_xs, q_sg_id, q_gu_ne, q_gu_eq, q_g_fne, q_g_cpe, q_w_f, q_v_f, q_u_f, q_fn_f, q_cp_f, q_sg_pg, q_sg_hc, q_lt_t, q_lt_f, q_le_t, q_le_f, q_eq_t, q_eq_f, ne_eq, eq_self, Bool.false_eq_true, Bool.true_eq_false, not_true_eq_false, not_false_eq_true, true_and, and_true, false_and, and_false, true_or, or_true, false_or, or_false, if_true, if_false, Int.reduceAdd, Int.reduceMul, Int.reduceSub, Int.reduceNeg, g10, isn, R_53_0, R_53_2, R_53_8, R_53_16, R_53_19, R_53_28, R_53_32, R_53_41, R_53_45, R_53_53, R_53_66, R_53_69, R_53_75, C_53_13, C_53_50]
    try dsimp only [Okt_e1, Okt_e2, atL_e1, atL_e2, WP_e1, WP_e2, LPg_e1, LPg_e2]
    refine ⟨q_u u4 242 10 (-1), ?_, fun _ => g10, fun z => absurd c0 z, ?_, by rw [q_gu_ne (by omega), l3, u39], by rw [q_gu_ne (by omega), x11], by rw [q_gu_ne (by omega), x12], fun k z hk => by rw [q_u_n (by omega), fx k z (by omega) (by omega)]⟩
    · rw [pre, R_46_59]
      simp (disch := first | omega | exact q_b_01 _) only [↓reduceIte, q_bk0, q_bk1, q_bk2, q_sg_b, q_b_0, q_b_n0, q_b_1, q_b_n1, q_b_T, q_b_F, q_sg_g, q_sg_sg, q_sg_xs, q_sg_id, q_gu_ne, q_gu_eq, q_g_fne, q_g_cpe, q_w_f, q_v_f, q_u_f, q_fn_f, q_cp_f, q_sg_pg, q_sg_hc, q_lt_t, q_lt_f, q_le_t, q_le_f, q_eq_t, q_eq_f, ne_eq, eq_self, Bool.false_eq_true, Bool.true_eq_false, not_true_eq_false, not_false_eq_true, true_and, and_true, false_and, and_false, true_or, or_true, false_or, or_false, if_true, if_false, Int.reduceAdd, Int.reduceMul, Int.reduceSub, Int.reduceNeg, x10, szR, c0, low, R_46_0, R_46_8, R_46_12, R_46_17, R_46_24, R_46_30, R_46_37, R_46_40, R_46_41, R_46_45, R_46_51, R_46_64, R_46_71, R_46_80, R_46_83, R_46_93, R_46_105, R_46_108, R_46_121, R_46_133, R_46_144, R_46_145, R_46_148, R_46_151, R_46_160, R_46_163, R_46_168, R_46_172, C_46_14, C_46_21, C_46_34, C_46_42, C_46_48, C_46_102, C_46_169]
    · have h' := LfC_sm (u := q_u u4 242 10 (-1)) hl4 (fun z _ => ⟨q_u_n (by omega), q_u_n (by omega)⟩)
      exact ⟨fun z z0 z1 => ⟨(h'.1 z z0 z1).1, (h'.1 z z0 z1).2.trans ⟨Or.inl, fun e => e.elim id (fun e => absurd e (nl z))⟩⟩, fun z z0 z1 hz => Or.inl (h'.2 z z0 z1 hz)⟩
  · have okT := OkR_t okR (by omega) z4
    obtain ⟨u5, m1, m2, m3, m4⟩ := cc_lowL (d := d + 2) (L := L) (xs := xs) (O := O) (c := c) 0 u4 (fun z => Lf z ∨ WP key t z) okT (by rw [x10]; exact S4) (by omega) hl4 (by omega) (by omega)
    have low : EV (d + 3) 53 0 [.ref 242, .null] [] (q_h L xs (u4) O c) = some (.inl none, q_h L xs (u5) O c) := by
      rw [R_53_0]
      exact m1
    try dsimp only [Okt_e1, Okt_e2, atL_e1, atL_e2, WP_e1, WP_e2, LPg_e1, LPg_e2]
    refine ⟨u5, ?_, fun z => absurd z c0, fun _ => m2, m3, ?_, ?_, ?_, fun k z hk => by rw [m4 k z (by omega) (by omega), fx k z (by omega) (by omega)]⟩
    · rw [pre, R_46_59]
      simp (disch := first | omega | exact q_b_01 _) only [↓reduceIte, q_bk0, q_bk1, q_bk2, q_sg_b, q_b_0, q_b_n0, q_b_1, q_b_n1, q_b_T, q_b_F, q_sg_g, q_sg_sg, q_sg_xs, q_sg_id, q_gu_ne, q_gu_eq, q_g_fne, q_g_cpe, q_w_f, q_v_f, q_u_f, q_fn_f, q_cp_f, q_sg_pg, q_sg_hc, q_lt_t, q_lt_f, q_le_t, q_le_f, q_eq_t, q_eq_f, ne_eq, eq_self, Bool.false_eq_true, Bool.true_eq_false, not_true_eq_false, not_false_eq_true, true_and, and_true, false_and, and_false, true_or, or_true, false_or, or_false, if_true, if_false, Int.reduceAdd, Int.reduceMul, Int.reduceSub, Int.reduceNeg, x10, szR, c0, low, R_46_0, R_46_8, R_46_12, R_46_17, R_46_24, R_46_30, R_46_37, R_46_40, R_46_41, R_46_45, R_46_51, R_46_64, R_46_71, R_46_80, R_46_83, R_46_93, R_46_105, R_46_108, R_46_121, R_46_133, R_46_144, R_46_145, R_46_148, R_46_151, R_46_160, R_46_163, R_46_168, R_46_172, C_46_14, C_46_21, C_46_34, C_46_42, C_46_48, C_46_102, C_46_169]
    · show (u5 242 9).toInt = _
      rw [m4 242 9 (by omega) (by omega)]
      exact l3.trans u39
    · show (u5 242 11).toInt = _
      rw [m4 242 11 (by omega) (by omega)]
      exact x11
    · show (u5 242 12).toInt = _
      rw [m4 242 12 (by omega) (by omega)]
      exact x12
end CR2
