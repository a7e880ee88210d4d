/-! THE CLASS: a key is removed, all levels; the root is lowered -/
noncomputable def lowT : Tr → Tr := tr_rec (fun p n a b => .lf p n a b) (fun p n a c r_  => if n = 1 then r_ 0 else .br p n a c)
theorem lowT_e1 (p n : Int) (a : Int → Int) (b : Int → Int) : lowT (.lf p n a b) = (.lf p n a b) := rfl
theorem lowT_e2 (p n : Int) (a : Int → Int) (c : Int → Tr) : lowT (.br p n a c) = (if n = 1 then lowT (c 0) else .br p n a c) := rfl
noncomputable def LPg : Tr → Int → Prop := tr_rec (fun u0_ u1_ u2_ u3_ v0_ => False) (fun p n u0_ c r_ z => n = 1 ∧ ((p ≠ -1 ∧ z = p) ∨ r_ 0 z))
theorem LPg_e1 (u0_ u1_ : Int) (u2_ : Int → Int) (u3_ : Int → Int) (v0_ : Int) : LPg (.lf u0_ u1_ u2_ u3_) v0_ = (False) := rfl
theorem LPg_e2 (p n : Int) (u0_ : Int → Int) (c : Int → Tr) (z : Int) : LPg (.br p n u0_ c) z = (n = 1 ∧ ((p ≠ -1 ∧ z = p) ∨ LPg (c 0) z)) := rfl
section CRM
variable {d L : Nat} {xs : Nat → Int32} {s s0 s1 u : Nat → Int → Int32} {O : Nat → Int64} {c : Bool × Nat × Nat} {D0 : Ar} {N N0 x y j l p n key : Int} {a : Int → Int} {cc : Int → Tr} {t t' : Tr} {Lf : Int → Prop}
theorem chg_del_sz : ∀ {t : Tr} {h : Nat} {lo hi : Int}, Okt t h lo hi → tsz (chg key (gDel key) t) ≤ 4 ∧ mdz key (gDel key) t = 0 := by
  intro t
  induction t using Tr_rc with
  | lf p n a b =>
    try dsimp only [Okt_e1, Okt_e2] at *
    rintro h lo hi ⟨e, n0, n1, o⟩
    try dsimp only [Okt_e1, Okt_e2]
    refine ⟨?_, rfl⟩
    show n - 1 ≤ 4
    omega
  | br p n a cc ih =>
    try dsimp only [Okt_e1, Okt_e2] at *
    rintro h lo hi ⟨h', e, n0, n1, r⟩
    obtain ⟨s0, s1, s2, s3⟩ := slt_ok (n := n) (a := a) (key := key) n0
    obtain ⟨i1, i2⟩ := ih _ (r _ s0 s1).2.2
    try dsimp only [Okt_e1, Okt_e2]
    refine ⟨?_, ?_⟩
    · try dsimp only [chg_e1, chg_e2]
      unfold mend
      split
      · show n - 1 ≤ 4
        omega
      · rw [if_neg (by omega)]
        exact n1
    · try dsimp only [mdz_e1, mdz_e2]
      rw [i2, if_neg (by omega)]
      rfl
theorem cc_remL {lf kk : Int} (N48 : 48 ≤ q_g s 242 9) (hN : q_g s 242 9 ≤ 176) : ∀ {t : Tr} {h : Nat} {lo hi : Int} (l x : Int) (y5 : Value), Okt t h lo hi → FWy key t → Sub D0 N0 t x → (∀ i : Nat, i ≤ h → q_g s 249 (l + i) = wyn D0 key t x i) → (∀ i : Nat, i < h → q_g s 250 (l + i) = sln key t i) → LC D0 N0 key (gDel key) (dC s) (q_g s 242 9) t x → 0 ≤ l → l + h < 40 → ∃ u y6, EV (d + 4) 46 59 [.ref 242, .int (q_I (key)), .int (q_I (lf)), .int (q_I (kk)), .int (q_I (l + h)), y5] [] (q_h L xs s O c) = EV (d + 4) 46 59 [.ref 242, .int (q_I (key)), .int (q_I (lf)), .int (q_I (kk)), .int (q_I (l)), y6] [] (q_h L xs (u) O c) ∧ Chd D0 N0 t x (dC u) (q_g u 242 9) (chg key (gDel key) t) x ∧ q_g u 242 9 = q_g s 242 9 ∧ FD s u := by
  intro t
  induction t using Tr_rc with
  | lf p n a b =>
    try dsimp only [Okt_e1, Okt_e2, FWy_e1, FWy_e2, LC_e1, LC_e2] at *
    rintro h lo hi l x y5 ⟨e, n0, n1, o⟩ hF S hw hs' hL l0 l1
    subst e
    exact ⟨s, y5, by simp, hL, rfl, FD_refl⟩
  | br p n a cc ih =>
    try dsimp only [Okt_e1, Okt_e2, FWy_e1, FWy_e2, LC_e1, LC_e2] at *
    rintro h lo hi l x y5 ⟨h', e, n0, n1, r⟩ ⟨hp, hF⟩ S hw hs' hL l0 l1
    subst e
    subst hp
    obtain ⟨s0', s1', s2, s3⟩ := slt_ok (n := n) (a := a) (key := key) n0
    have w0' : q_g s 249 (l + ((0 : Nat) : Int)) = x := hw 0 (by omega)
    have w1' : q_g s 249 (l + ((1 : Nat) : Int)) = D0.B x (slt n a key) := by
      refine (hw 1 (by omega)).trans ?_
      show wyn D0 key (cc (slt n a key)) (D0.B x (slt n a key)) 0 = _
      exact wyn_0 _ _ _ _
    have v0' : q_g s 250 (l + ((0 : Nat) : Int)) = slt n a key := hs' 0 (by omega)
    have q := ih (slt n a key) (l + 1) (D0.B x (slt n a key)) y5 (r _ s0' s1').2.2 hF (Sub_kid S s0' s1') (fun i hi => by
      have := hw (i + 1) (by omega)
      rw [show l + ((i + 1 : Nat) : Int) = l + 1 + (i : Int) by omega] at this
      exact this) (fun i hi => by
      have := hs' (i + 1) (by omega)
      rw [show l + ((i + 1 : Nat) : Int) = l + 1 + (i : Int) by omega] at this
      exact this) hL (by omega) (by omega)
    obtain ⟨u, y6, u1, u2, u3, u4⟩ := q
    obtain ⟨d4, -⟩ := chg_del_sz (key := key) (r _ s0' s1').2.2
    have ec : chg key (gDel key) (.br (-1) n a cc) = mend (-1) n a cc (slt n a key) (chg key (gDel key) (cc (slt n a key))) := rfl
    rw [ec]
    generalize slt n a key = jj at *
    generalize ht : chg key (gDel key) (cc jj) = t' at *
    obtain ⟨rx, xN, sb⟩ := Chd_sib S s0' s1' u2
    have sx := S.2.2 x (Or.inl rfl)
    have yr := u2.1.2.2 _ (Wi_self (dC u) t' (D0.B x jj))
    have ysz := Rep_sz u2.1.1
    have hR : q_g u 244 (D0.B x jj) = tsz t' := ysz.1
    have xR : q_g u 244 x = n := rx.2.1.trans (Sub_R2 S).2.1
    have xle : x < q_g u 242 9 := by
      have := u2.2.1
      omega
    have g1 : q_g u 249 (l + 1) = D0.B x jj := by rw [FD_g u4 (by omega) (by omega)]; exact w1'
    have g0 : q_g u 249 (l + 1 - 1) = x := by rw [FD_g u4 (by omega) (by omega), show l + 1 - 1 = l + ((0 : Nat) : Int) by omega]; exact w0'
    have gs : q_g u 250 (l + 1 - 1) = jj := by rw [FD_g u4 (by omega) (by omega), show l + 1 - 1 = l + ((0 : Nat) : Int) by omega]; exact v0'
    unfold mend
    by_cases c0 : tsz t' = 0
    · rw [if_pos c0]
      rw [c0] at hR
      obtain ⟨z, z1, z2, z3, z4, z5⟩ := cc_deleteAt (d := d + 2) (L := L) (xs := xs) (O := O) (c := c) (s := u) (x := x) (k := jj) rfl xR sx.1 xle (by omega) s0' s1' (by omega)
      obtain ⟨dd, de⟩ := dQ_del (q := 243) (fr := q_g u 247) (y := x) (p := jj) (r := n) (s := u) (t := z) s0' s1' (by omega) z2 z3 z4 (z5 243 (by decide) (by decide) (by decide))
      have ef : q_g z 247 = q_g u 247 := by
        funext i
        show (z 247 i).toInt = _
        rw [z5 247 (by decide) (by decide) (by decide)]
        rfl
      have eD : dC z = dQ 243 (q_g u 247) z := by rw [dC_Q, ef]
      have e9 : q_g z 242 9 = q_g u 242 9 := by
        show (z 242 9).toInt = _
        rw [z5 242 (by decide) (by decide) (by decide)]
        rfl
      try dsimp only [Okt_e1, Okt_e2, FWy_e1, FWy_e2, LC_e1, LC_e2]
      refine ⟨z, .int (q_I (D0.B x jj)), ?_, ?_, by rw [e9, u3], FD_trans u4 ⟨fun k i h1 h2 => by rw [z5 k (by omega) (by omega) (by omega)], fun i _ => by rw [z5 247 (by decide) (by decide) (by decide)]⟩⟩
      · rw [show l + ((h' + 1 : Nat) : Int) = l + 1 + (h' : Int) by omega, u1, R_46_59]
        simp (disch := first | omega | exact q_b_01 _) only [↓reduceIte, q_bk0, q_bk1, q_bk2, q_sg_b, q_b_0, q_b_n0, q_b_1, q_b_n1, q_b_T, q_b_F, q_sg_g, q_sg_sg, q_sg_xs, q_sg_id, q_gu_ne, q_gu_eq, q_g_fne, q_g_cpe, q_w_f, q_v_f, q_u_f, q_fn_f, q_cp_f, q_sg_pg, q_sg_hc, q_lt_t, q_lt_f, q_le_t, q_le_f, q_eq_t, q_eq_f, ne_eq, eq_self, Bool.false_eq_true, Bool.true_eq_false, not_true_eq_false, not_false_eq_true, true_and, and_true, false_and, and_false, true_or, or_true, false_or, or_false, if_true, if_false, Int.reduceAdd, Int.reduceMul, Int.reduceSub, Int.reduceNeg, g1, g0, gs, hR, z1, R_46_0, R_46_8, R_46_12, R_46_17, R_46_24, R_46_30, R_46_37, R_46_40, R_46_41, R_46_45, R_46_51, R_46_64, R_46_71, R_46_80, R_46_83, R_46_93, R_46_105, R_46_108, R_46_121, R_46_133, R_46_144, R_46_145, R_46_148, R_46_151, R_46_160, R_46_163, R_46_168, R_46_172, C_46_14, C_46_21, C_46_34, C_46_42, C_46_48, C_46_102, C_46_169]
        rw [show l + 1 + -1 = l by omega]
      · rw [e9, eD]
        exact stp_0 (D1 := dC u) S s0' s1' u2 de ⟨dd.1, dd.2.1, rfl, dd.2.2⟩
    · rw [if_neg c0, if_neg (by omega)]
      have y0 : q_g u 245 (6 * D0.B x jj) = tlst t' := by
        rw [show 6 * D0.B x jj = 6 * D0.B x jj + 0 by omega]
        exact Rep_lst u2.1.1 (by omega)
      have tr := q_g_rg u 245 (6 * D0.B x jj)
      rw [y0] at tr
      have dA := dQ_A (s := u) (q := 243) (fr := q_g u 247) (y := x) (p := jj) (v := tlst t') s0' (by omega) tr.1 tr.2
      have e9 : q_g (q_u u 245 (6 * x + jj) (tlst t')) 242 9 = q_g u 242 9 := q_gu_ne (by omega)
      try dsimp only [Okt_e1, Okt_e2, FWy_e1, FWy_e2, LC_e1, LC_e2]
      refine ⟨q_u u 245 (6 * x + jj) (tlst t'), .int (q_I (D0.B x jj)), ?_, ?_, by rw [e9, u3], FD_trans u4 ⟨fun k i h1 h2 => q_u_n (by omega), fun i _ => q_u_n (by omega)⟩⟩
      · have ey : q_g u 245 (D0.B x jj * 6) = tlst t' := by rw [show D0.B x jj * 6 = 6 * D0.B x jj by omega, y0]
        have ex : q_u u 245 (x * 6 + jj) (tlst t') = q_u u 245 (6 * x + jj) (tlst t') := by rw [show x * 6 + jj = 6 * x + jj by omega]
        rw [show l + ((h' + 1 : Nat) : Int) = l + 1 + (h' : Int) by omega, u1, R_46_59]
        simp (disch := first | omega | exact q_b_01 _) only [↓reduceIte, q_bk0, q_bk1, q_bk2, q_sg_b, q_b_0, q_b_n0, q_b_1, q_b_n1, q_b_T, q_b_F, q_sg_g, q_sg_sg, q_sg_xs, q_sg_id, q_gu_ne, q_gu_eq, q_g_fne, q_g_cpe, q_w_f, q_v_f, q_u_f, q_fn_f, q_cp_f, q_sg_pg, q_sg_hc, q_lt_t, q_lt_f, q_le_t, q_le_f, q_eq_t, q_eq_f, ne_eq, eq_self, Bool.false_eq_true, Bool.true_eq_false, not_true_eq_false, not_false_eq_true, true_and, and_true, false_and, and_false, true_or, or_true, false_or, or_false, if_true, if_false, Int.reduceAdd, Int.reduceMul, Int.reduceSub, Int.reduceNeg, g1, g0, gs, hR, c0, ey, ex, R_46_0, R_46_8, R_46_12, R_46_17, R_46_24, R_46_30, R_46_37, R_46_40, R_46_41, R_46_45, R_46_51, R_46_64, R_46_71, R_46_80, R_46_83, R_46_93, R_46_105, R_46_108, R_46_121, R_46_133, R_46_144, R_46_145, R_46_148, R_46_151, R_46_160, R_46_163, R_46_168, R_46_172, C_46_14, C_46_21, C_46_34, C_46_42, C_46_48, C_46_102, C_46_169]
        rw [show l + 1 + -1 = l by omega]
      · rw [e9]
        exact stp_m (D1 := dC u) S s0' s1' u2 dA.2 dA.1
/-- the root is lowered -/
theorem cc_lowL : ∀ {t : Tr} {h : Nat} {lo hi : Int} (i : Int) (s : Nat → Int → Int32) (Lf : Int → Prop), Okt t h lo hi → Sub (dC s) (q_g s 242 9) t (q_g s 242 10) → q_g s 242 9 ≤ 176 → LfC s Lf → 0 ≤ i → i + h < 40 → ∃ u, EV (d + 1) 53 2 [.ref 242, .int (q_I (i))] [] (q_h L xs s O c) = some (.inl none, q_h L xs (u) O c) ∧ Sub (dC u) (q_g u 242 9) (lowT t) (q_g u 242 10) ∧ LfC u (fun z => Lf z ∨ LPg t z) ∧ ∀ k z, k ≠ 248 → ¬ (k = 242 ∧ z = 10) → u k z = s k z := by
  intro t
  induction t using Tr_rc with
  | lf p n a b =>
    try dsimp only [Okt_e1, Okt_e2, LPg_e1, LPg_e2] at *
    rintro h lo hi i s Lf o S hN hl i0 i1
    have xr := S.2.2 _ (Wi_self (dC s) _ (q_g s 242 10))
    have isn := cc_isNode (d := d) (L := L) (xs := xs) (O := O) (c := c) (s := s) (x := q_g s 242 10) (n := q_g s 242 9) rfl
    rw [q_sg_id (by omega) (by omega), q_bt ⟨by omega, by omega, by omega⟩] at isn
    have hK : q_g s 243 (q_g s 242 10) = 1 := S.1.1
    try dsimp only [Okt_e1, Okt_e2, LPg_e1, LPg_e2]
    refine ⟨s, ?_, S, ?_, fun _ _ _ _ => rfl⟩
    · rw [R_53_2]
      simp (disch := first | omega | exact q_b_01 _) only [↓reduceIte, q_bk0, q_bk1, q_bk2, q_sg_b, q_b_0, q_b_n0, q_b_1, q_b_n1, q_b_T, q_b_F, q_sg_g, q_sg_sg, q_sg_xs, q_sg_id, q_gu_ne, q_gu_eq, q_g_fne, q_g_cpe, q_w_f, q_v_f, q_u_f, q_fn_f, q_cp_f, q_sg_pg, q_sg_hc, q_lt_t, q_lt_f, q_le_t, q_le_f, q_eq_t, q_eq_f, ne_eq, eq_self, Bool.false_eq_true, Bool.true_eq_false, not_true_eq_false, not_false_eq_true, true_and, and_true, false_and, and_false, true_or, or_true, false_or, or_false, if_true, if_false, Int.reduceAdd, Int.reduceMul, Int.reduceSub, Int.reduceNeg, isn, hK, R_53_0, R_53_8, R_53_16, R_53_19, R_53_28, R_53_32, R_53_41, R_53_45, R_53_53, R_53_66, R_53_69, R_53_75, C_53_13, C_53_50]
    · exact ⟨fun z z0 z1 => ⟨(hl.1 z z0 z1).1, (hl.1 z z0 z1).2.trans ⟨Or.inl, fun e => e.elim id False.elim⟩⟩, fun z z0 z1 hz => Or.inl (hl.2 z z0 z1 hz)⟩
  | br p n a cc ih =>
    try dsimp only [Okt_e1, Okt_e2, LPg_e1, LPg_e2] at *
    rintro h lo hi i s Lf ⟨h', e, n0, n1, r⟩ S hN hl i0 i1
    have xr := S.2.2 _ (Wi_self (dC s) _ (q_g s 242 10))
    have isn := cc_isNode (d := d) (L := L) (xs := xs) (O := O) (c := c) (s := s) (x := q_g s 242 10) (n := q_g s 242 9) rfl
    rw [q_sg_id (by omega) (by omega), q_bt ⟨by omega, by omega, by omega⟩] at isn
    have hK : q_g s 243 (q_g s 242 10) = 2 := S.1.1
    have hR : q_g s 244 (q_g s 242 10) = n := (Sub_R2 S).2.1
    by_cases c1 : n = 1
    · subst c1
      have S0 := Sub_kid S (k := 0) (by omega) (by omega)
      have pg := (Sub_R2 S).2.2.2.2.1
      have eB : q_g s 246 (q_g s 242 10 * 6) = (dC s).B (q_g s 242 10) 0 := by
        show _ = q_g s 246 (6 * q_g s 242 10 + 0)
        rw [show q_g s 242 10 * 6 = 6 * q_g s 242 10 + 0 by omega]
      generalize hx : q_g s 242 10 = x at *
      have br := S0.2.2 _ (Wi_self (dC s) _ _)
      -- the page of the root is left
      have st : ∃ s1, EV (d) 52 0 [.ref 242, .int (q_I (x))] [] (q_h L xs s O c) = some (.inl none, q_h L xs (s1) O c) ∧ LfC s1 (fun z => Lf z ∨ (p ≠ -1 ∧ z = p)) ∧ ∀ k z, k ≠ 248 → s1 k z = s k z := by
        by_cases c48 : x < 48
        · try dsimp only [Okt_e1, Okt_e2, LPg_e1, LPg_e2]
          refine ⟨q_u s 248 x 1, ?_, ?_, fun k z hk => q_u_n (by omega)⟩
          · simp (disch := first | omega | exact q_b_01 _) only [↓reduceIte, q_bk0, q_bk1, q_bk2, q_sg_b, q_b_0, q_b_n0, q_b_1, q_b_n1, q_b_T, q_b_F, q_sg_g, q_sg_sg, q_sg_xs, q_sg_id, q_gu_ne, q_gu_eq, q_g_fne, q_g_cpe, q_w_f, q_v_f, q_u_f, q_fn_f, q_cp_f, q_sg_pg, q_sg_hc, q_lt_t, q_lt_f, q_le_t, q_le_f, q_eq_t, q_eq_f, ne_eq, eq_self, Bool.false_eq_true, Bool.true_eq_false, not_true_eq_false, not_false_eq_true, true_and, and_true, false_and, and_false, true_or, or_true, false_or, or_false, if_true, if_false, Int.reduceAdd, Int.reduceMul, Int.reduceSub, Int.reduceNeg, R_52_0, R_52_6, R_52_13]
          · have key2 : Lf x ∨ (p ≠ -1 ∧ x = p) := by
              rcases pg with ⟨f, e⟩ | ⟨f, e⟩
              · exact Or.inr ⟨by omega, e.symm⟩
              · exact Or.inl (hl.2 x (by omega) c48 f)
            try dsimp only [Okt_e1, Okt_e2, LPg_e1, LPg_e2]
            refine ⟨fun z z0 z1 => ?_, fun z z0 z1 hz => ?_⟩
            · by_cases ez : z = x
              · subst ez
                rw [q_gu_eq rfl]
                exact ⟨Or.inr rfl, fun _ => key2, fun _ => rfl⟩
              · rw [q_gu_ne (by omega)]
                try dsimp only [Okt_e1, Okt_e2, LPg_e1, LPg_e2]
                refine ⟨(hl.1 z z0 z1).1, fun e => Or.inl ((hl.1 z z0 z1).2.mp e), fun e => ?_⟩
                rcases e with e | ⟨e1, e2⟩
                · exact (hl.1 z z0 z1).2.mpr e
                · rcases pg with ⟨f, e⟩ | ⟨f, e⟩
                  · exact absurd (e2.trans e) ez
                  · exact absurd e e1
            · rw [q_gu_ne (by omega)] at hz
              exact Or.inl (hl.2 z z0 z1 hz)
        · try dsimp only [Okt_e1, Okt_e2, LPg_e1, LPg_e2]
          refine ⟨s, ?_, ?_, fun _ _ _ => rfl⟩
          · simp (disch := first | omega | exact q_b_01 _) only [↓reduceIte, q_bk0, q_bk1, q_bk2, q_sg_b, q_b_0, q_b_n0, q_b_1, q_b_n1, q_b_T, q_b_F, q_sg_g, q_sg_sg, q_sg_xs, q_sg_id, q_gu_ne, q_gu_eq, q_g_fne, q_g_cpe, q_w_f, q_v_f, q_u_f, q_fn_f, q_cp_f, q_sg_pg, q_sg_hc, q_lt_t, q_lt_f, q_le_t, q_le_f, q_eq_t, q_eq_f, ne_eq, eq_self, Bool.false_eq_true, Bool.true_eq_false, not_true_eq_false, not_false_eq_true, true_and, and_true, false_and, and_false, true_or, or_true, false_or, or_false, if_true, if_false, Int.reduceAdd, Int.reduceMul, Int.reduceSub, Int.reduceNeg, R_52_0, R_52_6, R_52_13]
          · have np : ∀ z, z < 48 → ¬ (p ≠ -1 ∧ z = p) := fun z z1 ⟨e1, e2⟩ => by
              rcases pg with ⟨f, e⟩ | ⟨f, e⟩
              · omega
              · exact e1 e
            exact ⟨fun z z0 z1 => ⟨(hl.1 z z0 z1).1, (hl.1 z z0 z1).2.trans ⟨Or.inl, fun e => e.elim id (fun e => absurd e (np z z1))⟩⟩, fun z z0 z1 hz => Or.inl (hl.2 z z0 z1 hz)⟩
      obtain ⟨s1, v1, v2, v3⟩ := st
      have sg : ∀ k z, k ≠ 248 → q_g s1 k z = q_g s k z := fun k z hk => by
        show (s1 k z).toInt = _
        rw [v3 k z hk]
        rfl
      have eD : dC (q_u s1 242 10 ((dC s).B x 0)) = dC s := dC_c (fun k a1 a2 => by rw [q_u_k (by omega)]; exact funext fun z => v3 k z (by omega))
      have g9 : q_g (q_u s1 242 10 ((dC s).B x 0)) 242 9 = q_g s 242 9 := by rw [q_gu_ne (by omega), sg 242 9 (by decide)]
      have g10 : q_g (q_u s1 242 10 ((dC s).B x 0)) 242 10 = (dC s).B x 0 := by rw [q_gu_eq rfl, q_sg_id (by omega) (by omega)]
      obtain ⟨u, u1, u2, u3, u4⟩ := ih 0 (i + 1) (q_u s1 242 10 ((dC s).B x 0)) (fun z => Lf z ∨ (p ≠ -1 ∧ z = p)) (r 0 (by omega) (by omega)).2.2 (by rw [eD, g9, g10]; exact S0) (by rw [g9]; exact hN) (LfC_sm v2 (fun z _ => ⟨q_u_n (by omega), q_u_n (by omega)⟩)) (by omega) (by omega)
      try dsimp only [Okt_e1, Okt_e2, LPg_e1, LPg_e2]
      refine ⟨u, ?_, ?_, ?_, fun k z h1 h2 => by rw [u4 k z h1 h2, q_u_n h2, v3 k z h1]⟩
      · have sx : q_g s1 242 10 = x := by rw [sg 242 10 (by decide), hx]
        have eB1 : q_g s1 246 (x * 6) = (dC s).B x 0 := by rw [sg 246 _ (by decide), eB]
        rw [R_53_2]
        simp (disch := first | omega | exact q_b_01 _) only [↓reduceIte, q_bk0, q_bk1, q_bk2, q_sg_b, q_b_0, q_b_n0, q_b_1, q_b_n1, q_b_T, q_b_F, q_sg_g, q_sg_sg, q_sg_xs, q_sg_id, q_gu_ne, q_gu_eq, q_g_fne, q_g_cpe, q_w_f, q_v_f, q_u_f, q_fn_f, q_cp_f, q_sg_pg, q_sg_hc, q_lt_t, q_lt_f, q_le_t, q_le_f, q_eq_t, q_eq_f, ne_eq, eq_self, Bool.false_eq_true, Bool.true_eq_false, not_true_eq_false, not_false_eq_true, true_and, and_true, false_and, and_false, true_or, or_true, false_or, or_false, if_true, if_false, Int.reduceAdd, Int.reduceMul, Int.reduceSub, Int.reduceNeg, hx, isn, hK, hR, v1, sx, eB1, R_53_0, R_53_8, R_53_16, R_53_19, R_53_28, R_53_32, R_53_41, R_53_45, R_53_53, R_53_66, R_53_69, R_53_75, C_53_13, C_53_50]
        exact u1
      · try dsimp only [lowT_e1, lowT_e2]
        rw [if_pos rfl]
        exact u2
      · try dsimp only [Okt_e1, Okt_e2, LPg_e1, LPg_e2]
        refine ⟨fun z z0 z1 => ⟨(u3.1 z z0 z1).1, (u3.1 z z0 z1).2.trans ⟨fun e => ?_, fun e => ?_⟩⟩, fun z z0 z1 hz => ?_⟩
        · rcases e with (e | e) | e
          · exact Or.inl e
          · exact Or.inr ⟨rfl, Or.inl e⟩
          · exact Or.inr ⟨rfl, Or.inr e⟩
        · rcases e with e | ⟨-, e | e⟩
          · exact Or.inl (Or.inl e)
          · exact Or.inl (Or.inr e)
          · exact Or.inr e
        · rcases u3.2 z z0 z1 hz with (e | e) | e
          · exact Or.inl e
          · exact Or.inr ⟨rfl, Or.inl e⟩
          · exact Or.inr ⟨rfl, Or.inr e⟩
    · try dsimp only [Okt_e1, Okt_e2, LPg_e1, LPg_e2]
      refine ⟨s, ?_, ?_, ?_, fun _ _ _ _ => rfl⟩
      · rw [R_53_2]
        simp (disch := first | omega | exact q_b_01 _) only [↓reduceIte, q_bk0, q_bk1, q_bk2, q_sg_b, q_b_0, q_b_n0, q_b_1, q_b_n1, q_b_T, q_b_F, q_sg_g, q_sg_sg, q_sg_xs, q_sg_id, q_gu_ne, q_gu_eq, q_g_fne, q_g_cpe, q_w_f, q_v_f, q_u_f, q_fn_f, q_cp_f, q_sg_pg, q_sg_hc, q_lt_t, q_lt_f, q_le_t, q_le_f, q_eq_t, q_eq_f, ne_eq, eq_self, Bool.false_eq_true, Bool.true_eq_false, not_true_eq_false, not_false_eq_true, true_and, and_true, false_and, and_false, true_or, or_true, false_or, or_false, if_true, if_false, Int.reduceAdd, Int.reduceMul, Int.reduceSub, Int.reduceNeg, isn, hK, hR, c1, R_53_0, R_53_8, R_53_16, R_53_19, R_53_28, R_53_32, R_53_41, R_53_45, R_53_53, R_53_66, R_53_69, R_53_75, C_53_13, C_53_50]
      · try dsimp only [lowT_e1, lowT_e2]
        rw [if_neg c1]
        exact S
      · exact ⟨fun z z0 z1 => ⟨(hl.1 z z0 z1).1, (hl.1 z z0 z1).2.trans ⟨Or.inl, fun e => e.elim id (fun e => absurd e.1 c1)⟩⟩, fun z z0 z1 hz => Or.inl (hl.2 z z0 z1 hz)⟩
end CRM
