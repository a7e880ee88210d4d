/-! THE CLASS: a value is told anew, or is so already; the first key of all -/
section CST
variable {d L : Nat} {xs : Nat → Int32} {s u : Nat → Int → Int32} {O : Nat → Int64} {c : Bool × Nat × Nat} {D D0 D' : Ar} {N N0 x key v lo hi : Int} {h : Nat} {t : Tr} {Lf : Int → Prop}
theorem chg_set_l : ∀ {t : Tr} {h : Nat} {lo hi : Int}, Okt t h lo hi → tlst (chg key (gSet key v) t) = tlst t ∧ tsz (chg key (gSet key v) t) = tsz t := by
  intro t
  induction t using Tr_rc with
  | lf p n a b =>
    try dsimp only [Okt_e1, Okt_e2] at *
    exact fun _ => ⟨rfl, rfl⟩
  | br p n a cc ih =>
    try dsimp only [Okt_e1, Okt_e2] at *
    rintro h lo hi ⟨h', e, n0, n1, r⟩
    obtain ⟨s0, s1, s2, s3⟩ := slt_ok (n := n) (a := a) (key := key) n0
    obtain ⟨r1, r2, r3⟩ := r _ s0 s1
    obtain ⟨i1, i2⟩ := ih _ r3
    have sz := (Okt_R r3).2
    try simp only [chg_e1, chg_e2]
    unfold mend
    rw [if_neg (by omega), if_neg (by omega)]
    try dsimp only [Okt_e1, Okt_e2]
    refine ⟨?_, rfl⟩
    show up a (slt n a key) _ 0 = a 0
    by_cases e : (0 : Int) = slt n a key
    · rw [up_eq e, i1, r2, ← e]
    · rw [up_ne e]
theorem set_up (hD : ∀ y, D'.K y = D0.K y ∧ D'.R y = D0.R y ∧ D'.fr y = D0.fr y ∧ D'.A y = D0.A y) : ∀ {t : Tr} {h : Nat} {lo hi x : Int}, Okt t h lo hi → FWy key t → Sub D0 N0 t x → LC D0 N0 key (gSet key v) D' N t x → Chd D0 N0 t x D' N (chg key (gSet key v) t) x := by
  intro t
  induction t using Tr_rc with
  | lf p n a b =>
    try dsimp only [Okt_e1, Okt_e2, FWy_e1, FWy_e2, LC_e1, LC_e2] at *
    exact fun o _ S hL => hL
  | br p n a cc ih =>
    try dsimp only [Okt_e1, Okt_e2, FWy_e1, FWy_e2, LC_e1, LC_e2] at *
    rintro h lo hi x ⟨h', e, n0, n1, r⟩ ⟨hp, hF⟩ S hL
    subst hp
    obtain ⟨s0, s1, s2, s3⟩ := slt_ok (n := n) (a := a) (key := key) n0
    obtain ⟨r1, r2, r3⟩ := r _ s0 s1
    have C := ih _ r3 hF (Sub_kid S s0 s1) hL
    obtain ⟨i1, i2⟩ := chg_set_l (key := key) (v := v) r3
    have sz := (Okt_R r3).2
    try simp only [chg_e1, chg_e2]
    unfold mend
    rw [if_neg (by omega), if_neg (by omega)]
    refine stp_m (D1 := D') S s0 s1 C (fun y _ => Row_refl) ⟨rfl, rfl, rfl, fun k _ _ => ⟨rfl, fun _ => rfl⟩, ?_⟩
    rw [(hD x).2.2.2, ((Sub_R2 S).2.2.2.2.2 _ s0 s1).1, i1, r2]
theorem cc_putSame (k0 : 0 ≤ key) (k1 : key < 100) (v0 : 0 ≤ v) (v1 : v < 100) (o : Okt t h lo hi) (hh : h ≤ 12) (S : Sub (dC s) (q_g s 242 9) t (q_g s 242 10)) (hN : q_g s 242 9 ≤ 176) (hl : LfC s Lf) (hn : atL key (hasL key) t) (hv : valK key t = v) : ∃ u, EV (d + 4) 45 0 [.ref 242, .int (q_I (key)), .int (q_I (v)), .null, .null, .null, .null] [] (q_h L xs s O c) = some (.inl none, q_h L xs (u) O c) ∧ ∀ k z, k ≠ 249 → k ≠ 250 → ¬ (k = 242 ∧ z = 8) → u k z = s k z := by
  obtain ⟨u1, u2, y, n, a, b, f1, y0, y1, f2, f3, f4, S2, Sl, n0, n4, fQ, fV, fL, hl2, w8, wW, wS, w11, fr2, fr1, ey⟩ := cc_pre (d := d + 2) (L := L) (xs := xs) (O := O) (c := c) k0 k1 o hh S hN hl
  have xr := S.2.2 _ (Wi_self (dC s) t (q_g s 242 10))
  have hL : hasL key n a b := (fQ _).mp hn
  rw [q_bt hL] at f3
  have pz := plz_ok (n := n) (a := a) (key := key) (by omega)
  have eB : q_g u1 246 (y * 6 + plz n a key) = v := by
    rw [show y * 6 + plz n a key = 6 * y + plz n a key by omega]
    have e1 := ((Sub_R1 Sl).2.2.2.2.2 _ pz.1 hL.1).2
    have e2 : q_g u2 246 (6 * y + plz n a key) = b (plz n a key) := e1
    rw [← hv, fV, ← e2]
    unfold q_g
    rw [fr1 246 _ (by omega) (by omega) (by omega), fr2 246 _ (by omega) (by omega)]
  have root : q_g s 242 10 ≠ -1 := by omega
  refine ⟨u1, ?_, fr1⟩
  simp (disch := first | omega | exact q_b_01 _) only [↓reduceIte, q_bk0, q_bk1, q_bk2, q_sg_b, q_b_0, q_b_n0, q_b_1, q_b_n1, q_b_T, q_b_F, q_sg_g, q_sg_sg, q_sg_xs, q_sg_id, q_gu_ne, q_gu_eq, q_g_fne, q_g_cpe, q_w_f, q_v_f, q_u_f, q_fn_f, q_cp_f, q_sg_pg, q_sg_hc, q_lt_t, q_lt_f, q_le_t, q_le_f, q_eq_t, q_eq_f, ne_eq, eq_self, Bool.false_eq_true, Bool.true_eq_false, not_true_eq_false, not_false_eq_true, true_and, and_true, false_and, and_false, true_or, or_true, false_or, or_false, if_true, if_false, Int.reduceAdd, Int.reduceMul, Int.reduceSub, Int.reduceNeg, root, f1, f2, f3, eB, R_45_0, R_45_8, R_45_13, R_45_19, R_45_22, R_45_33, R_45_34, R_45_39, R_45_46, R_45_56, R_45_63, R_45_68, R_45_80, R_45_84, R_45_85, R_45_89, R_45_94, R_45_107, R_45_108, R_45_117, R_45_130, R_45_136, R_45_139, R_45_142, C_45_16, C_45_30, C_45_36, C_45_43, C_45_53, C_45_86, C_45_114, C_45_133]
theorem cc_putSet (k0 : 0 ≤ key) (k1 : key < 100) (v0 : 0 ≤ v) (v1 : v < 100) (o : Okt t h lo hi) (hh : h ≤ 12) (S : Sub (dC s) (q_g s 242 9) t (q_g s 242 10)) (hN : q_g s 242 9 ≤ 176) (hl : LfC s Lf) (hn : atL key (hasL key) t) (hv : valK key t ≠ v) : ∃ u, EV (d + 4) 45 0 [.ref 242, .int (q_I (key)), .int (q_I (v)), .null, .null, .null, .null] [] (q_h L xs s O c) = some (.inl none, q_h L xs (u) O c) ∧ Sub (dC u) (q_g u 242 9) (chg key (gSet key v) t) (q_g u 242 10) ∧ LfC u (fun z => Lf z ∨ WP key t z) ∧ q_g u 242 9 = q_g s 242 9 ∧ q_g u 242 11 = 1 ∧ q_g u 242 12 = q_g s 242 12 ∧ ∀ k z, ¬ (242 ≤ k ∧ k ≤ 250) → u k z = s k z := by
  obtain ⟨u1, u2, y, n, a, b, f1, y0, y1, f2, f3, f4, S2, Sl, n0, n4, fQ, fV, fL, hl2, w8, wW, wS, w11, fr2, fr1, ey⟩ := cc_pre (d := d + 2) (L := L) (xs := xs) (O := O) (c := c) k0 k1 o hh S hN hl
  have xr := S.2.2 _ (Wi_self (dC s) t (q_g s 242 10))
  have hL : hasL key n a b := (fQ _).mp hn
  rw [q_bt hL] at f3
  have pz := plz_ok (n := n) (a := a) (key := key) (by omega)
  have eB : q_g u1 246 (y * 6 + plz n a key) = b (plz n a key) := by
    rw [show y * 6 + plz n a key = 6 * y + plz n a key by omega]
    have e1 := ((Sub_R1 Sl).2.2.2.2.2 _ pz.1 hL.1).2
    have e2 : q_g u2 246 (6 * y + plz n a key) = b (plz n a key) := e1
    rw [← e2]
    unfold q_g
    rw [fr1 246 _ (by omega) (by omega) (by omega), fr2 246 _ (by omega) (by omega)]
  have br := q_g_rg u1 246 (y * 6 + plz n a key)
  rw [eB] at br
  have root : q_g s 242 10 ≠ -1 := by omega
  have nv : b (plz n a key) ≠ v := fun e => hv (fV.trans e)
  have h9 : q_g u2 242 9 = q_g s 242 9 := by
    show (u2 242 9).toInt = _
    rw [fr2 242 9 (by omega) (by omega)]
    rfl
  have dB := dQ_B (s := u2) (q := 243) (fr := q_g u2 247) (y := y) (p := plz n a key) (v := v) pz.1 (by omega) (by omega) (by omega)
  have C1 : Chd (dC u2) (q_g u2 242 9) (.lf (-1) n a b) y (dC (q_u u2 246 (6 * y + plz n a key) v)) (q_g u2 242 9) (gSet key v n a b) y := by
    refine lf_chg Sl dB.2 (by omega) (by omega) ⟨dB.1.1, dB.1.2.1.trans (Sub_R1 Sl).2.1, dB.1.2.2.1, fun k z0 z1 => ?_⟩
    obtain ⟨j1, j2⟩ := dB.1.2.2.2.1 k z0 (by omega)
    obtain ⟨m1, m2⟩ := (Sub_R1 Sl).2.2.2.2.2 k z0 z1
    try dsimp only [Okt_e1, Okt_e2, atL_e1, atL_e2, WP_e1, WP_e2]
    refine ⟨j1.trans m1, ?_⟩
    by_cases e : k = plz n a key
    · rw [up_eq e, e]
      exact dB.1.2.2.2.2
    · rw [up_ne e]
      exact (j2 e).trans m2
  have lc := fL (gSet key v) _ _ C1
  have hD : ∀ z, (dC (q_u u2 246 (6 * y + plz n a key) v)).K z = (dC u2).K z ∧ (dC (q_u u2 246 (6 * y + plz n a key) v)).R z = (dC u2).R z ∧ (dC (q_u u2 246 (6 * y + plz n a key) v)).fr z = (dC u2).fr z ∧ (dC (q_u u2 246 (6 * y + plz n a key) v)).A z = (dC u2).A z := fun z => ⟨q_gu_ne (by omega), q_gu_ne (by omega), q_gu_ne (by omega), funext fun k => q_gu_ne (by omega)⟩
  have C2 := set_up hD (Okt_ren (key := key) o).1 (FWy_ren t) S2 lc
  rw [chg_ren] at C2
  have g9 : q_g (q_u u2 246 (6 * y + plz n a key) v) 242 9 = q_g u2 242 9 := q_gu_ne (by omega)
  have g10 : q_g (q_u u2 246 (6 * y + plz n a key) v) 242 10 = q_g s 242 10 := by
    rw [q_gu_ne (by omega)]
    show (u2 242 10).toInt = _
    rw [fr2 242 10 (by omega) (by omega)]
    rfl
  try dsimp only [Okt_e1, Okt_e2, atL_e1, atL_e2, WP_e1, WP_e2]
  refine ⟨q_u u2 246 (6 * y + plz n a key) v, ?_, by rw [g9, g10]; exact C2.1, LfC_sm hl2 (fun z _ => ⟨q_u_n (by omega), q_u_n (by omega)⟩), by rw [g9, h9], by rw [q_gu_ne (by omega), w11], ?_, fun k z hk => by rw [q_u_n (by omega), fr2 k z (by omega) (by omega)]⟩
  · have e6 : q_u u2 246 (y * 6 + plz n a key) v = q_u u2 246 (6 * y + plz n a key) v := by rw [show y * 6 + plz n a key = 6 * y + plz n a key by omega]
    simp (disch := first | omega | exact q_b_01 _) only [↓reduceIte, q_bk0, q_bk1, q_bk2, q_sg_b, q_b_0, q_b_n0, q_b_1, q_b_n1, q_b_T, q_b_F, q_sg_g, q_sg_sg, q_sg_xs, q_sg_id, q_gu_ne, q_gu_eq, q_g_fne, q_g_cpe, q_w_f, q_v_f, q_u_f, q_fn_f, q_cp_f, q_sg_pg, q_sg_hc, q_lt_t, q_lt_f, q_le_t, q_le_f, q_eq_t, q_eq_f, ne_eq, eq_self, Bool.false_eq_true, Bool.true_eq_false, not_true_eq_false, not_false_eq_true, true_and, and_true, false_and, and_false, true_or, or_true, false_or, or_false, if_true, if_false, Int.reduceAdd, Int.reduceMul, Int.reduceSub, Int.reduceNeg, root, f1, f2, f3, eB, nv, f4, e6, R_45_0, R_45_8, R_45_13, R_45_19, R_45_22, R_45_33, R_45_34, R_45_39, R_45_46, R_45_56, R_45_63, R_45_68, R_45_80, R_45_84, R_45_85, R_45_89, R_45_94, R_45_107, R_45_108, R_45_117, R_45_130, R_45_136, R_45_139, R_45_142, C_45_16, C_45_30, C_45_36, C_45_43, C_45_53, C_45_86, C_45_114, C_45_133]
  · rw [q_gu_ne (by omega)]
    show (u2 242 12).toInt = _
    rw [fr2 242 12 (by omega) (by omega)]
    rfl
theorem cc_putNone (k0 : 0 ≤ key) (k1 : key < 100) (v0 : 0 ≤ v) (v1 : v < 100) (hr : q_g s 242 10 = -1) (N48 : 48 ≤ q_g s 242 9) (hN : q_g s 242 9 < 176) (hl : LfC s Lf) : ∃ u, EV (d + 4) 45 0 [.ref 242, .int (q_I (key)), .int (q_I (v)), .null, .null, .null, .null] [] (q_h L xs s O c) = some (.inl none, q_h L xs (u) O c) ∧ Sub (dC u) (q_g u 242 9) (.lf (-1) 1 (fun _ => key) (fun _ => v)) (q_g u 242 10) ∧ LfC u Lf ∧ q_g u 242 9 = q_g s 242 9 + 1 ∧ q_g u 242 11 = 1 ∧ q_g u 242 12 = q_g s 242 12 ∧ ∀ k z, ¬ (242 ≤ k ∧ k ≤ 250) → u k z = s k z := by
  generalize hNN : q_g s 242 9 = N at *
  have mk := cc_makeNode (d := d + 3) (L := L) (xs := xs) (O := O) (c := c) (s := q_u s 242 11 1) (kind := 1) (n := N) (by rw [q_gu_ne (by omega), hNN]) N48 hN
  generalize hM : q_u (q_u (q_u (q_u (q_u (q_u s 242 11 1) 242 9 (N + 1)) 243 N 1) 244 N 0) 247 N 1) 242 10 N = M
  have M9 : q_g M 242 9 = N + 1 := by rw [← hM, q_gu_ne (by omega), q_gu_ne (by omega), q_gu_ne (by omega), q_gu_ne (by omega), q_gu_eq rfl, q_sg_id (by omega) (by omega)]
  have M10 : q_g M 242 10 = N := by rw [← hM, q_gu_eq rfl, q_sg_id (by omega) (by omega)]
  have MN : q_g M 244 N = 0 := by rw [← hM, q_gu_ne (by omega), q_gu_ne (by omega), q_gu_eq rfl]; rfl
  obtain ⟨t3, e1, e2, e3, e4, e5⟩ := cc_insertAt (d := d + 2) (L := L) (xs := xs) (O := O) (c := c) (s := M) (x := N) (k := 0) (v := key) (w := v) M9 MN (by omega) (by omega) (by omega) (by omega) (by omega) (by omega)
  have g : ∀ k z, k ≠ 244 → k ≠ 245 → k ≠ 246 → q_g t3 k z = q_g M k z := fun k z h1 h2 h3 => by
    show (t3 k z).toInt = _
    rw [e5 k h1 h2 h3]
    rfl
  unfold Sub
  dsimp only [Rep_e1, Dis_e1, Wi_e1]
  refine ⟨t3, ?_, ⟨⟨?_, ?_, by omega, by omega, Or.inr ⟨?_, rfl⟩, fun k z0 z1 => ⟨?_, ?_⟩⟩, trivial, fun y hy => ?_⟩, LfC_sm hl (fun z hz => ⟨?_, ?_⟩), by rw [g 242 9 (by decide) (by decide) (by decide), M9], ?_, ?_, fun k z hk => ?_⟩
  · simp (disch := first | omega | exact q_b_01 _) only [↓reduceIte, q_bk0, q_bk1, q_bk2, q_sg_b, q_b_0, q_b_n0, q_b_1, q_b_n1, q_b_T, q_b_F, q_sg_g, q_sg_sg, q_sg_xs, q_sg_id, q_gu_ne, q_gu_eq, q_g_fne, q_g_cpe, q_w_f, q_v_f, q_u_f, q_fn_f, q_cp_f, q_sg_pg, q_sg_hc, q_lt_t, q_lt_f, q_le_t, q_le_f, q_eq_t, q_eq_f, ne_eq, eq_self, Bool.false_eq_true, Bool.true_eq_false, not_true_eq_false, not_false_eq_true, true_and, and_true, false_and, and_false, true_or, or_true, false_or, or_false, if_true, if_false, Int.reduceAdd, Int.reduceMul, Int.reduceSub, Int.reduceNeg, hr, mk, R_45_0, R_45_8, R_45_13, R_45_19, R_45_22, R_45_33, R_45_34, R_45_39, R_45_46, R_45_56, R_45_63, R_45_68, R_45_80, R_45_84, R_45_85, R_45_89, R_45_94, R_45_107, R_45_108, R_45_117, R_45_130, R_45_136, R_45_139, R_45_142, C_45_16, C_45_30, C_45_36, C_45_43, C_45_53, C_45_86, C_45_114, C_45_133]
    rw [hM]
    simp (disch := first | omega | exact q_b_01 _) only [↓reduceIte, q_bk0, q_bk1, q_bk2, q_sg_b, q_b_0, q_b_n0, q_b_1, q_b_n1, q_b_T, q_b_F, q_sg_g, q_sg_sg, q_sg_xs, q_sg_id, q_gu_ne, q_gu_eq, q_g_fne, q_g_cpe, q_w_f, q_v_f, q_u_f, q_fn_f, q_cp_f, q_sg_pg, q_sg_hc, q_lt_t, q_lt_f, q_le_t, q_le_f, q_eq_t, q_eq_f, ne_eq, eq_self, Bool.false_eq_true, Bool.true_eq_false, not_true_eq_false, not_false_eq_true, true_and, and_true, false_and, and_false, true_or, or_true, false_or, or_false, if_true, if_false, Int.reduceAdd, Int.reduceMul, Int.reduceSub, Int.reduceNeg, M10, e1, R_45_0, R_45_8, R_45_13, R_45_19, R_45_22, R_45_33, R_45_34, R_45_39, R_45_46, R_45_56, R_45_63, R_45_68, R_45_80, R_45_84, R_45_85, R_45_89, R_45_94, R_45_107, R_45_108, R_45_117, R_45_130, R_45_136, R_45_139, R_45_142, C_45_16, C_45_30, C_45_36, C_45_43, C_45_53, C_45_86, C_45_114, C_45_133]
  · show q_g t3 243 _ = 1
    rw [g 242 10 (by decide) (by decide) (by decide), M10, g 243 N (by decide) (by decide) (by decide), ← hM, q_gu_ne (by omega), q_gu_ne (by omega), q_gu_ne (by omega), q_gu_eq rfl]
    rfl
  · show q_g t3 244 _ = 1
    rw [g 242 10 (by decide) (by decide) (by decide), M10]
    show (t3 244 N).toInt = 1
    rw [e4, setf_e rfl]
    rfl
  · show q_g t3 247 _ = 1
    rw [g 242 10 (by decide) (by decide) (by decide), M10, g 247 N (by decide) (by decide) (by decide), ← hM, q_gu_ne (by omega), q_gu_eq rfl]
    rfl
  · have ek : k = 0 := by omega
    subst ek
    show q_g t3 245 (6 * q_g t3 242 10 + 0) = key
    rw [g 242 10 (by decide) (by decide) (by decide), M10]
    show (t3 245 (6 * N + 0)).toInt = key
    rw [e2, insf_same (by omega) (by omega) (by omega), inz_eq rfl]
    exact q_sg_id (by omega) (by omega)
  · have ek : k = 0 := by omega
    subst ek
    show q_g t3 246 (6 * q_g t3 242 10 + 0) = v
    rw [g 242 10 (by decide) (by decide) (by decide), M10]
    show (t3 246 (6 * N + 0)).toInt = v
    rw [e3, insf_same (by omega) (by omega) (by omega), inz_eq rfl]
    exact q_sg_id (by omega) (by omega)
  · have hy : y = q_g t3 242 10 := hy
    rw [hy, g 242 10 (by decide) (by decide) (by decide), M10, g 242 9 (by decide) (by decide) (by decide), M9]
    omega
  · rw [e5 247 (by decide) (by decide) (by decide), ← hM, q_u_n (by omega), q_u_n (by omega), q_u_n (by omega), q_u_n (by omega), q_u_n (by omega), q_u_n (by omega)]
  · rw [e5 248 (by decide) (by decide) (by decide), ← hM, q_u_n (by omega), q_u_n (by omega), q_u_n (by omega), q_u_n (by omega), q_u_n (by omega), q_u_n (by omega)]
  · rw [g 242 11 (by decide) (by decide) (by decide), ← hM, q_gu_ne (by omega), q_gu_ne (by omega), q_gu_ne (by omega), q_gu_ne (by omega), q_gu_ne (by omega), q_gu_eq rfl]
    rfl
  · rw [g 242 12 (by decide) (by decide) (by decide), ← hM, q_gu_ne (by omega), q_gu_ne (by omega), q_gu_ne (by omega), q_gu_ne (by omega), q_gu_ne (by omega), q_gu_ne (by omega)]
  · rw [e5 k (by omega) (by omega) (by omega), ← hM, q_u_n (by omega), q_u_n (by omega), q_u_n (by omega), q_u_n (by omega), q_u_n (by omega), q_u_n (by omega)]
end CST
