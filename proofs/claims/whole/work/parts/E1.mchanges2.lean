/-! THE REFERENCE: a change of the draft, of a tree -/
section MC2
variable {d L : Nat} {xs : Nat → Int32} {s u : Nat → Int → Int32} {O : Nat → Int64} {c : Bool × Nat × Nat} {key v i : Int} {T : Option Tr} {t : Tr} {h : Nat} {Lf Lg : Int → Prop}
theorem mm_chDel (k0 : 0 ≤ key) (k1 : key < 100) (o : Okt t h 0 100) (hh : h ≤ 12) (S : Sub (dM s) (q_g s 285 25) t (q_g s 285 26)) (N48 : 48 ≤ q_g s 285 25) (hN : q_g s 285 25 + rnw 1 key t ≤ 240) (hl : LfM s Lf) (hn : atL key (hasL key) t) : ∃ u, EV (d + 4) 269 0 [.ref 285, .int (q_I (key)), .int (q_I (100)), .null, .null] [] (q_h L xs s O c) = some (.inl none, q_h L xs (u) O c) ∧ (tsz (chg key (gDel key) t) = 0 → q_g u 285 26 = -1) ∧ (tsz (chg key (gDel key) t) ≠ 0 → Sub (dM u) (q_g u 285 25) (lowT (chg key (gDel key) t)) (q_g u 285 26)) ∧ LfM u (fun z => (Lf z ∨ WP key t z) ∨ LPg (chg key (gDel key) t) z) ∧ q_g u 285 25 = q_g s 285 25 + rnw 1 key t ∧ q_g u 285 29 = 1 ∧ FMc s u := by
  obtain ⟨u1, u2, y0, y, n, a, b, f1, f2, f3, f4, f5, f6, f7, S2, f8, Sl, f9, n0, n4, fQ, fV, fL, hl2, wW, wS, w29, fr1, fr2⟩ := mm_pre (d := d + 1) (L := L) (xs := xs) (O := O) (c := c) k0 k1 o hh S N48 hN hl
  have r0 := rnw_0 (q := 1) (key := key) (by omega) t
  have xr := S.2.2 _ (Wi_self (dM s) t (q_g s 285 26))
  have root : q_g s 285 26 ≠ -1 := by omega
  have pz := plz_ok (n := n) (a := a) (key := key) (by omega)
  have hL : hasL key n a b := (fQ _).mp hn
  have yr := Sl.2.2 y rfl
  rw [if_pos hL] at f5
  obtain ⟨u3, z1, z2, z3, z4, z5⟩ := mm_remove (d := d + 2) (L := L) (xs := xs) (O := O) (c := c) (s := u2) (y := y) (p := plz n a key) (r := n) (Sub_R1 Sl).2.1 (by omega) (by omega) pz.1 hL.1 (by omega)
  obtain ⟨dd, de⟩ := dQ_del (q := 294) (fr := fun x => if x < 48 then 0 else 1) (y := y) (p := plz n a key) (r := n) (s := u2) (t := u3) pz.1 hL.1 (by omega) z2 z3 z4 (z5 294 (by decide) (by decide) (by decide))
  have C1 : Chd (dM u2) (q_g u2 285 25) (.lf (-1) n a b) y (dM u3) (q_g u2 285 25) (gDel key n a b) y := by
    refine lf_chg Sl de (by omega) (by omega) ⟨dd.1, dd.2.1, rfl, fun k w0 w1 => ?_⟩
    obtain ⟨j1, j2⟩ := dd.2.2 k w0 w1
    try dsimp only [Okt_e1, Okt_e2, atL_e1, atL_e2, WP_e1, WP_e2, LPg_e1, LPg_e2]
    refine ⟨j1.trans ?_, j2.trans ?_⟩
    all_goals unfold dlz
    all_goals split
    · exact ((Sub_R1 Sl).2.2.2.2.2 k w0 (by omega)).1
    · exact ((Sub_R1 Sl).2.2.2.2.2 (k + 1) (by omega) (by omega)).1
    · exact ((Sub_R1 Sl).2.2.2.2.2 k w0 (by omega)).2
    · exact ((Sub_R1 Sl).2.2.2.2.2 (k + 1) (by omega) (by omega)).2
  obtain ⟨s4, m0⟩ := chg_del_sz (key := key) o
  obtain ⟨u, m1, m2, m3, m4, m5, m6⟩ := mm_after (d := d) (L := L) (xs := xs) (O := O) (c := c) (g := gDel key) (by omega) o hh S2 fL hl2 wW wS z5 C1 (chg_ok (key := key) (g := gDel key) (Q := hasL key) gDel_ok o k0 k1 hn) (by rw [m0, if_neg (by omega)]; omega)
  rw [m0, if_neg (by omega)] at m5
  have g29 : q_g u 285 29 = 1 := by
    show (u 285 29).toInt = _
    rw [m6 285 29 (by omega) (by omega) (by omega)]
    exact w29
  try dsimp only [Okt_e1, Okt_e2, atL_e1, atL_e2, WP_e1, WP_e2, LPg_e1, LPg_e2]
  refine ⟨u, ?_, fun e => (m3 e).1, fun e => (m4 e (by omega)).1, ?_, by omega, g29, fun k z h1 h2 => by rw [m6 k z (by omega) (by omega) (by omega), fr2 k z h1 h2]⟩
  · simp (disch := first | omega | exact q_b_01 _) only [↓reduceIte, q_bk0, q_bk1, q_bk2, q_sg_b, q_b_0, q_b_n0, q_b_1, q_b_n1, q_b_T, q_b_F, q_sg_g, q_sg_sg, q_sg_xs, q_sg_id, q_gu_ne, q_gu_eq, q_g_fne, q_g_cpe, q_w_f, q_v_f, q_u_f, q_fn_f, q_cp_f, q_sg_pg, q_sg_hc, q_lt_t, q_lt_f, q_le_t, q_le_f, q_eq_t, q_eq_f, ne_eq, eq_self, Bool.false_eq_true, Bool.true_eq_false, not_true_eq_false, not_false_eq_true, true_and, and_true, false_and, and_false, true_or, or_true, false_or, or_false, if_true, if_false, Int.reduceAdd, Int.reduceMul, Int.reduceSub, Int.reduceNeg, root, f1, f2, f5, f7, f9, z1, m1, R_269_0, R_269_8, R_269_14, R_269_15, R_269_21, R_269_24, R_269_35, R_269_40, R_269_41, R_269_46, R_269_54, R_269_58, R_269_66, R_269_71, R_269_74, R_269_79, R_269_86, R_269_91, R_269_95, R_269_96, R_269_101, R_269_106, R_269_112, R_269_119, R_269_124, R_269_127, R_269_132, R_269_144, R_269_150, R_269_153, R_269_160, R_269_170, R_269_175, C_269_18, C_269_32, C_269_43, C_269_55, C_269_88, C_269_103, C_269_121, C_269_167, C_269_172]
  · by_cases e : tsz (chg key (gDel key) t) = 0
    · refine LfM_iff (m3 e).2 (fun z => ⟨Or.inl, fun q => q.elim id (fun hz => ?_)⟩)
      generalize chg key (gDel key) t = t' at *
      cases t' using Tr_cs with
      | lf p n a b =>
        exact False.elim hz
      | br p n a cc =>
        try dsimp only [Okt_e1, Okt_e2, atL_e1, atL_e2, WP_e1, WP_e2, LPg_e1, LPg_e2] at *
        have e : n = 0 := e
        have := hz.1
        omega
    · exact (m4 e (by omega)).2
theorem mm_chSet (k0 : 0 ≤ key) (k1 : key < 100) (v0 : 0 ≤ v) (v1 : v < 100) (o : Okt t h 0 100) (hh : h ≤ 12) (h2 : 2 ≤ tsz t ∨ h = 0) (S : Sub (dM s) (q_g s 285 25) t (q_g s 285 26)) (N48 : 48 ≤ q_g s 285 25) (hN : q_g s 285 25 + rnw 1 key t ≤ 240) (hl : LfM s Lf) (hn : atL key (hasL key) t) (hv : valK key t ≠ v) : ∃ u, EV (d + 4) 269 0 [.ref 285, .int (q_I (key)), .int (q_I (v)), .null, .null] [] (q_h L xs s O c) = some (.inl none, q_h L xs (u) O c) ∧ Sub (dM u) (q_g u 285 25) (chg key (gSet key v) t) (q_g u 285 26) ∧ LfM u (fun z => Lf z ∨ WP key t z) ∧ q_g u 285 25 = q_g s 285 25 + rnw 1 key t ∧ q_g u 285 29 = 1 ∧ FMc s u := by
  obtain ⟨u1, u2, y0, y, n, a, b, f1, f2, f3, f4, f5, f6, f7, S2, f8, Sl, f9, n0, n4, fQ, fV, fL, hl2, wW, wS, w29, fr1, fr2⟩ := mm_pre (d := d + 1) (L := L) (xs := xs) (O := O) (c := c) k0 k1 o hh S N48 hN hl
  have r0 := rnw_0 (q := 1) (key := key) (by omega) t
  have xr := S.2.2 _ (Wi_self (dM s) t (q_g s 285 26))
  have root : q_g s 285 26 ≠ -1 := by omega
  have pz := plz_ok (n := n) (a := a) (key := key) (by omega)
  have hL : hasL key n a b := (fQ _).mp hn
  have yr := Sl.2.2 y rfl
  rw [if_pos hL] at f5
  have dB := dQ_B (s := u2) (q := 294) (fr := fun x => if x < 48 then 0 else 1) (y := y) (p := plz n a key) (v := v) pz.1 (by omega) (by omega) (by omega)
  have C1 : Chd (dM u2) (q_g u2 285 25) (.lf (-1) n a b) y (dM (q_u u2 297 (6 * y + plz n a key) v)) (q_g u2 285 25) (gSet key v n a b) y := by
    refine lf_chg Sl dB.2 (by omega) (by omega) ⟨dB.1.1, dB.1.2.1.trans (Sub_R1 Sl).2.1, dB.1.2.2.1, fun k z0 z1 => ?_⟩
    obtain ⟨j1, j2⟩ := dB.1.2.2.2.1 k z0 (by omega)
    obtain ⟨m1, m2⟩ := (Sub_R1 Sl).2.2.2.2.2 k z0 z1
    try dsimp only [Okt_e1, Okt_e2, atL_e1, atL_e2, WP_e1, WP_e2]
    refine ⟨j1.trans m1, ?_⟩
    by_cases e : k = plz n a key
    · rw [up_eq e, e]
      exact dB.1.2.2.2.2
    · rw [up_ne e]
      exact (j2 e).trans m2
  have m0 := mdz_set (key := key) (v := v) o
  obtain ⟨cs1, cs2⟩ := chg_set_l (key := key) (v := v) o
  have sz := (Okt_R o).2
  have oR := chg_ok (key := key) (g := gSet key v) (Q := hasL key) (gSet_ok v0 v1) o k0 k1 hn
  obtain ⟨u, m1, m2, m3, m4, m5, m6⟩ := mm_after (d := d) (L := L) (xs := xs) (O := O) (c := c) (g := gSet key v) (by omega) o hh S2 fL hl2 wW wS (fun k _ _ h3 => q_u_k h3) C1 oR (by rw [m0, if_neg (by omega)]; omega)
  rw [m0, if_neg (by omega)] at m5
  obtain ⟨l1, l2⟩ := low_id oR (by omega)
  obtain ⟨m41, m42⟩ := m4 (by omega) (by omega)
  rw [l1] at m41
  have g29 : q_g u 285 29 = 1 := by
    show (u 285 29).toInt = _
    rw [m6 285 29 (by omega) (by omega) (by omega)]
    exact w29
  have nv : q_g u1 297 (6 * y0 + plz n a key) ≠ v := by
    rw [f6 _ pz.1 hL.1, ← fV]
    exact hv
  try dsimp only [Okt_e1, Okt_e2, atL_e1, atL_e2, WP_e1, WP_e2]
  refine ⟨u, ?_, m41, LfM_iff m42 (fun z => ⟨fun q => q.elim id (fun hz => absurd hz (l2 z)), Or.inl⟩), by omega, g29, fun k z h1 h2 => by rw [m6 k z (by omega) (by omega) (by omega), fr2 k z h1 h2]⟩
  simp (disch := first | omega | exact q_b_01 _) only [↓reduceIte, q_bk0, q_bk1, q_bk2, q_sg_b, q_b_0, q_b_n0, q_b_1, q_b_n1, q_b_T, q_b_F, q_sg_g, q_sg_sg, q_sg_xs, q_sg_id, q_gu_ne, q_gu_eq, q_g_fne, q_g_cpe, q_w_f, q_v_f, q_u_f, q_fn_f, q_cp_f, q_sg_pg, q_sg_hc, q_lt_t, q_lt_f, q_le_t, q_le_f, q_eq_t, q_eq_f, ne_eq, eq_self, Bool.false_eq_true, Bool.true_eq_false, not_true_eq_false, not_false_eq_true, true_and, and_true, false_and, and_false, true_or, or_true, false_or, or_false, if_true, if_false, Int.reduceAdd, Int.reduceMul, Int.reduceSub, Int.reduceNeg, root, f1, f2, f5, f7, f9, mm_b, nv, m1, R_269_0, R_269_8, R_269_14, R_269_15, R_269_21, R_269_24, R_269_35, R_269_40, R_269_41, R_269_46, R_269_54, R_269_58, R_269_66, R_269_71, R_269_74, R_269_79, R_269_86, R_269_91, R_269_95, R_269_96, R_269_101, R_269_106, R_269_112, R_269_119, R_269_124, R_269_127, R_269_132, R_269_144, R_269_150, R_269_153, R_269_160, R_269_170, R_269_175, C_269_18, C_269_32, C_269_43, C_269_55, C_269_88, C_269_103, C_269_121, C_269_167, C_269_172]
theorem mm_chNew (k0 : 0 ≤ key) (k1 : key < 100) (v0 : 0 ≤ v) (v1 : v < 100) (o : Okt t h 0 100) (hh : h ≤ 12) (h2 : 2 ≤ tsz t ∨ h = 0) (S : Sub (dM s) (q_g s 285 25) t (q_g s 285 26)) (N48 : 48 ≤ q_g s 285 25) (hN : q_g s 285 25 + rnw 1 key t + mdz key (gPut key v) t + (if tsz (chg key (gPut key v) t) = 5 then 2 else 0) ≤ 240) (hl : LfM s Lf) (hn : ¬ atL key (hasL key) t) : ∃ u, EV (d + 4) 269 0 [.ref 285, .int (q_I (key)), .int (q_I (v)), .null, .null] [] (q_h L xs s O c) = some (.inl none, q_h L xs (u) O c) ∧ Sub (dM u) (q_g u 285 25) (topT (chg key (gPut key v) t)) (q_g u 285 26) ∧ LfM u (fun z => Lf z ∨ WP key t z) ∧ q_g u 285 25 = q_g s 285 25 + rnw 1 key t + mdz key (gPut key v) t + (if tsz (chg key (gPut key v) t) = 5 then 2 else 0) ∧ q_g u 285 29 = 1 ∧ FMc s u := by
  have r0 := rnw_0 (q := 1) (key := key) (by omega) t
  have m0 := mdz_0 (key := key) (g := gPut key v) t
  have i5 : 0 ≤ (if tsz (chg key (gPut key v) t) = 5 then (2 : Int) else 0) := by split <;> omega
  obtain ⟨u1, u2, y0, y, n, a, b, f1, f2, f3, f4, f5, f6, f7, S2, f8, Sl, f9, n0, n4, fQ, fV, fL, hl2, wW, wS, w29, fr1, fr2⟩ := mm_pre (d := d + 1) (L := L) (xs := xs) (O := O) (c := c) k0 k1 o hh S N48 (by omega) hl
  have xr := S.2.2 _ (Wi_self (dM s) t (q_g s 285 26))
  have root : q_g s 285 26 ≠ -1 := by omega
  have pz := plz_ok (n := n) (a := a) (key := key) (by omega)
  have hL : ¬ hasL key n a b := fun z => hn ((fQ _).mpr z)
  have yr := Sl.2.2 y rfl
  rw [if_neg hL] at f5
  obtain ⟨u3, z1, z2, z3, z4, z5⟩ := mm_insert (d := d + 2) (L := L) (xs := xs) (O := O) (c := c) (s := u2) (y := y) (p := plz n a key) (v := key) (w := v) (r := n) (Sub_R1 Sl).2.1 (by omega) (by omega) pz.1 pz.2.1 (by omega)
  obtain ⟨dd, de⟩ := dQ_ins (q := 294) (fr := fun x => if x < 48 then 0 else 1) (fr' := fun x => if x < 48 then 0 else 1) (y := y) (p := plz n a key) (r := n) (s := u2) (t := u3) (v := key) (w := v) pz.1 pz.2.1 (by omega) z2 z3 z4 (z5 294 (by decide) (by decide) (by decide)) (fun _ _ => rfl)
  have C1 : Chd (dM u2) (q_g u2 285 25) (.lf (-1) n a b) y (dM u3) (q_g u2 285 25) (gPut key v n a b) y := by
    refine lf_chg Sl de (by omega) (by omega) ⟨dd.1, dd.2.1, rfl, fun k w0 w1 => ?_⟩
    obtain ⟨j1, j2⟩ := dd.2.2 k w0 (by omega)
    rw [q_sg_id (by omega) (by omega)] at j1 j2
    try dsimp only [Okt_e1, Okt_e2, atL_e1, atL_e2, WP_e1, WP_e2]
    refine ⟨j1.trans ?_, j2.trans ?_⟩
    all_goals unfold inz
    · split
      · exact ((Sub_R1 Sl).2.2.2.2.2 k w0 (by omega)).1
      · split
        · rfl
        · exact ((Sub_R1 Sl).2.2.2.2.2 (k - 1) (by omega) (by omega)).1
    · split
      · exact ((Sub_R1 Sl).2.2.2.2.2 k w0 (by omega)).2
      · split
        · rfl
        · exact ((Sub_R1 Sl).2.2.2.2.2 (k - 1) (by omega) (by omega)).2
  have oR := chg_ok (key := key) (g := gPut key v) (Q := fun n a b => ¬ hasL key n a b) (gPut_ok v0 v1) o k0 k1 (by
    refine (fQ _).mpr hL)
  obtain ⟨u, m1, m2, m3, m4, m5, m6⟩ := mm_after (d := d) (L := L) (xs := xs) (O := O) (c := c) (g := gPut key v) (by omega) o hh S2 fL hl2 wW wS z5 C1 oR (by omega)
  have zs := chg_put_sz (key := key) (v := v) o
  have sz := (Okt_R o).2
  obtain ⟨l1, l2⟩ := low_id oR (by omega)
  have g29 : q_g u 285 29 = 1 := by
    show (u 285 29).toInt = _
    rw [m6 285 29 (by omega) (by omega) (by omega)]
    exact w29
  have ep : -(-plz n a key - 1) - 1 = plz n a key := by omega
  have all : Sub (dM u) (q_g u 285 25) (topT (chg key (gPut key v) t)) (q_g u 285 26) ∧ LfM u (fun z => Lf z ∨ WP key t z) := by
    by_cases e : tsz (chg key (gPut key v) t) = 5
    · exact m2 e
    · obtain ⟨m41, m42⟩ := m4 (by omega) e
      rw [l1] at m41
      unfold topT
      rw [if_neg e]
      exact ⟨m41, LfM_iff m42 (fun z => ⟨fun q => q.elim id (fun hz => absurd hz (l2 z)), Or.inl⟩)⟩
  try dsimp only [Okt_e1, Okt_e2, atL_e1, atL_e2, WP_e1, WP_e2]
  refine ⟨u, ?_, all.1, all.2, by omega, g29, fun k z h1 h2 => by rw [m6 k z (by omega) (by omega) (by omega), fr2 k z h1 h2]⟩
  simp (disch := first | omega | exact q_b_01 _) only [↓reduceIte, q_bk0, q_bk1, q_bk2, q_sg_b, q_b_0, q_b_n0, q_b_1, q_b_n1, q_b_T, q_b_F, q_sg_g, q_sg_sg, q_sg_xs, q_sg_id, q_gu_ne, q_gu_eq, q_g_fne, q_g_cpe, q_w_f, q_v_f, q_u_f, q_fn_f, q_cp_f, q_sg_pg, q_sg_hc, q_lt_t, q_lt_f, q_le_t, q_le_f, q_eq_t, q_eq_f, ne_eq, eq_self, Bool.false_eq_true, Bool.true_eq_false, not_true_eq_false, not_false_eq_true, true_and, and_true, false_and, and_false, true_or, or_true, false_or, or_false, if_true, if_false, Int.reduceAdd, Int.reduceMul, Int.reduceSub, Int.reduceNeg, root, f1, f2, f5, f7, f9, ep, z1, m1, R_269_0, R_269_8, R_269_14, R_269_15, R_269_21, R_269_24, R_269_35, R_269_40, R_269_41, R_269_46, R_269_54, R_269_58, R_269_66, R_269_71, R_269_74, R_269_79, R_269_86, R_269_91, R_269_95, R_269_96, R_269_101, R_269_106, R_269_112, R_269_119, R_269_124, R_269_127, R_269_132, R_269_144, R_269_150, R_269_153, R_269_160, R_269_170, R_269_175, C_269_18, C_269_32, C_269_43, C_269_55, C_269_88, C_269_103, C_269_121, C_269_167, C_269_172]
/-- a change, of whatever kind -/
theorem mm_changes (C : MSt s T Lf i) (i0 : 0 ≤ i) (i1 : i ≤ 11) (k0 : 0 ≤ key) (k1 : key < 100) (v0 : 0 ≤ v) (v1 : v ≤ 100) : ∃ u, EV (d + 4) 269 0 [.ref 285, .int (q_I (key)), .int (q_I (v)), .null, .null] [] (q_h L xs s O c) = some (.inl none, q_h L xs (u) O c) ∧ MSt u (dT key v T) (fun z => Lf z ∨ dL key v T z) (i + 1) ∧ (dA key v T → q_g u 285 29 = 1) ∧ (¬ dA key v T → q_g u 285 29 = q_g s 285 29) ∧ FMc s u := by
  have C0 := C
  obtain ⟨c1, c3, c4, c5, c6, c7⟩ := C
  have p0 := pot_0 1 (by omega) T
  have dp := dT_pot (key := key) (v := v) (q := 1) (Or.inr rfl) c4
  have r0 := dR_0 (key := key) (v := v) (T := T) 1 (by omega)
  have n0 := dN_0 (key := key) (v := v) (T := T)
  have p1 := pot_0 1 (by omega) (dT key v T)
  have cn : ∀ t, T = some t → cnt t ≤ 200 := fun t ht => by
    have := cnt_le (c7 t ht).2.1 (c7 t ht).2.2
    omega
  have dk := dT_ok k0 k1 v0 v1 c4 cn
  cases T with
  | none =>
    by_cases cv : v = 100
    · have hr := c6 rfl
      try dsimp only [atL_e1, atL_e2]
      refine ⟨s, ?_, MSt_keep C0 (fun _ _ _ _ => rfl) (fun z => ⟨Or.inl, fun e => e.elim id False.elim⟩) (by rw [dT_n, if_pos cv]), fun z => absurd cv z, fun _ => rfl, fun _ _ _ _ => rfl⟩
      simp (disch := first | omega | exact q_b_01 _) only [↓reduceIte, q_bk0, q_bk1, q_bk2, q_sg_b, q_b_0, q_b_n0, q_b_1, q_b_n1, q_b_T, q_b_F, q_sg_g, q_sg_sg, q_sg_xs, q_sg_id, q_gu_ne, q_gu_eq, q_g_fne, q_g_cpe, q_w_f, q_v_f, q_u_f, q_fn_f, q_cp_f, q_sg_pg, q_sg_hc, q_lt_t, q_lt_f, q_le_t, q_le_f, q_eq_t, q_eq_f, ne_eq, eq_self, Bool.false_eq_true, Bool.true_eq_false, not_true_eq_false, not_false_eq_true, true_and, and_true, false_and, and_false, true_or, or_true, false_or, or_false, if_true, if_false, Int.reduceAdd, Int.reduceMul, Int.reduceSub, Int.reduceNeg, hr, cv, R_269_0, R_269_8, R_269_14, R_269_15, R_269_21, R_269_24, R_269_35, R_269_40, R_269_41, R_269_46, R_269_54, R_269_58, R_269_66, R_269_71, R_269_74, R_269_79, R_269_86, R_269_91, R_269_95, R_269_96, R_269_101, R_269_106, R_269_112, R_269_119, R_269_124, R_269_127, R_269_132, R_269_144, R_269_150, R_269_153, R_269_160, R_269_170, R_269_175, C_269_18, C_269_32, C_269_43, C_269_55, C_269_88, C_269_103, C_269_121, C_269_167, C_269_172]
    · obtain ⟨u, u1, u2, u3, u4, u5, u7⟩ := mm_putNone (d := d) (L := L) (xs := xs) (O := O) (c := c) (v := v) k0 k1 v0 (by omega) (c6 rfl) c1 (by omega) c3
      have eN : dN key v none = 1 := by rw [dN_n, if_neg cv]
      try dsimp only [atL_e1, atL_e2]
      refine ⟨u, u1, ⟨by omega, LfM_iff u3 (fun z => ⟨Or.inl, fun e => e.elim id False.elim⟩), dk, by omega, fun e => ?_, fun t' e => ?_⟩, fun _ => u5, fun z => absurd cv z, u7⟩
      · rw [dT_n, if_neg cv] at e
        exact absurd e (by simp)
      · rw [dT_n, if_neg cv] at e
        have e := Option.some.inj e
        rw [← e]
        exact u2
  | some t =>
    obtain ⟨h, h12, o, hz⟩ := c4
    by_cases hA : dA key v (some t)
    · have eR : dR 1 key v (some t) = rnw 1 key t := by
        rw [dR_s]
        exact if_pos hA
      by_cases cv : v = 100
      · subst cv
        have hn : atL key (hasL key) t := hA.elim (fun z => z.2) (fun z => absurd rfl z.1)
        obtain ⟨u, u1, u2, u3, u4, u5, u6, u7⟩ := mm_chDel (d := d) (L := L) (xs := xs) (O := O) (c := c) k0 k1 o h12 (c7 t rfl) c1 (by omega) c3 hn
        have eT : dT key 100 (some t) = if tsz (chg key (gDel key) t) = 0 then none else some (lowT (chg key (gDel key) t)) := by rw [dT_s, if_pos rfl, if_pos hn]
        try dsimp only [atL_e1, atL_e2]
        refine ⟨u, u1, ⟨by have := rnw_0 (q := 1) (key := key) (by omega) t; omega, LfM_iff u4 (fun z => ⟨fun e => e.elim (fun e => e.elim Or.inl (fun e => Or.inr ⟨hA, Or.inl e⟩)) (fun e => Or.inr ⟨hA, Or.inr ⟨rfl, e⟩⟩), fun e => e.elim (fun e => Or.inl (Or.inl e)) (fun e => e.2.elim (fun e => Or.inl (Or.inr e)) (fun e => Or.inr e.2))⟩), dk, by omega, fun e => ?_, fun t' e => ?_⟩, fun _ => u6, fun z => absurd hA z, u7⟩
        · rw [eT] at e
          by_cases c0 : tsz (chg key (gDel key) t) = 0
          · exact u2 c0
          · rw [if_neg c0] at e
            exact absurd e (by simp)
        · rw [eT] at e
          by_cases c0 : tsz (chg key (gDel key) t) = 0
          · rw [if_pos c0] at e
            exact absurd e (by simp)
          · rw [if_neg c0] at e
            have e := Option.some.inj e
            rw [← e]
            exact u3 c0
      · by_cases hn : atL key (hasL key) t
        · have hv : valK key t ≠ v := fun e => hA.elim (fun z => cv z.1) (fun z => z.2 ⟨hn, e⟩)
          obtain ⟨u, u1, u2, u3, u4, u5, u7⟩ := mm_chSet (d := d) (L := L) (xs := xs) (O := O) (c := c) k0 k1 v0 (by omega) o h12 hz (c7 t rfl) c1 (by omega) c3 hn hv
          have eT : dT key v (some t) = some (chg key (gSet key v) t) := by rw [dT_s, if_neg cv, if_pos hn, if_neg hv]
          try dsimp only [atL_e1, atL_e2]
          refine ⟨u, u1, ⟨by have := rnw_0 (q := 1) (key := key) (by omega) t; omega, LfM_iff u3 (fun z => ⟨fun e => e.elim Or.inl (fun e => Or.inr ⟨hA, Or.inl e⟩), fun e => e.elim Or.inl (fun e => e.2.elim Or.inr (fun e => absurd e.1 cv))⟩), dk, by omega, fun e => ?_, fun t' e => ?_⟩, fun _ => u5, fun z => absurd hA z, u7⟩
          · rw [eT] at e
            exact absurd e (by simp)
          · rw [eT] at e
            have e := Option.some.inj e
            rw [← e]
            exact u2
        · have eN : dN key v (some t) = mdz key (gPut key v) t + (if tsz (chg key (gPut key v) t) = 5 then 2 else 0) := by rw [dN_s, if_neg cv, if_neg hn]
          obtain ⟨u, u1, u2, u3, u4, u5, u7⟩ := mm_chNew (d := d) (L := L) (xs := xs) (O := O) (c := c) (v := v) k0 k1 v0 (by omega) o h12 hz (c7 t rfl) c1 (by omega) c3 hn
          have eT : dT key v (some t) = some (topT (chg key (gPut key v) t)) := by rw [dT_s, if_neg cv, if_neg hn]
          try dsimp only [atL_e1, atL_e2]
          refine ⟨u, u1, ⟨by omega, LfM_iff u3 (fun z => ⟨fun e => e.elim Or.inl (fun e => Or.inr ⟨hA, Or.inl e⟩), fun e => e.elim Or.inl (fun e => e.2.elim Or.inr (fun e => absurd e.1 cv))⟩), dk, by omega, fun e => ?_, fun t' e => ?_⟩, fun _ => u5, fun z => absurd hA z, u7⟩
          · rw [eT] at e
            exact absurd e (by simp)
          · rw [eT] at e
            have e := Option.some.inj e
            rw [← e]
            exact u2
    · have rr := rnw_0 (q := 1) (key := key) (by omega) t
      have rb : q_g s 285 25 + rnw 1 key t ≤ 240 := by
        have : rnw 1 key t ≤ tw (wt 1) t := rnw_tw o
        have e : pot 1 (some t) = tw (wt 1) t := rfl
        omega
      obtain ⟨u, u1, u2⟩ := mm_chNo (d := d) (L := L) (xs := xs) (O := O) (c := c) k0 k1 v0 v1 o h12 (c7 t rfl) c1 rb c3 hA
      have eT : dT key v (some t) = some t := by
        rw [dT_s]
        by_cases cv : v = 100
        · rw [if_pos cv, if_neg (fun z => hA (Or.inl ⟨cv, z⟩))]
        · have hn : atL key (hasL key) t ∧ valK key t = v := Classical.byContradiction fun z => hA (Or.inr ⟨cv, z⟩)
          rw [if_neg cv, if_pos hn.1, if_pos hn.2]
      try dsimp only [atL_e1, atL_e2]
      refine ⟨u, u1, MSt_keep C0 u2 (fun z => ⟨Or.inl, fun e => e.elim id (fun e => absurd e.1 hA)⟩) eT, fun z => absurd z hA, fun _ => ?_, fun k z h1 h2 => u2 k z (by omega) (by omega)⟩
      show (u 285 29).toInt = _
      rw [u2 285 29 (by omega) (by omega)]
      rfl
end MC2
