/-! commit, cut, store, would -/
/-- a call that may be refused and else says yes or no -/
noncomputable def OpB (Bg : (Nat → Int → Int32) → Prop) (W M : ex_H → Option (ex_R × ex_H)) (L : Nat) (xs : Nat → Int32) (s : Nat → Int → Int32) (O : Nat → Int64) (c : Bool × Nat × Nat) : Prop :=
  ∃ (k v : Int) (t t' : Nat → Int → Int32) (O' : Nat → Int64) (c' : Bool × Nat × Nat), W (q_h L xs s O c) = some (.inl (some (.int (q_I k))), q_h L xs t O' c') ∧ M (q_h L xs t O' c') = some (.inl (some (.int (q_I v))), q_h L xs t' O' c') ∧ 0 ≤ k ∧ k < 4 ∧ q_g t' 285 0 = k ∧ (k = 0 → O' 0 = (q_I v).toInt64) ∧ Cn c c' ∧ Bg t' ∧ (v = 0 ∨ v = 1)
section OPC
variable {d L : Nat} {xs : Nat → Int32} {s : Nat → Int → Int32} {O : Nat → Int64} {c : Bool × Nat × Nat} {b b' : Int}
theorem Big_mono (B : Big b s) (h : b ≤ b') : Big b' s := by
  obtain ⟨⟨a1, a2, a3⟩, b1, c1, ⟨d1, d2, d3, d4, d5, d6⟩, e1, e2, e3⟩ := B
  exact ⟨⟨a1, Inv_mono a2 h, a3⟩, b1, c1, ⟨d1, d2, d3, d4, d5, fun j j0 j1 => ⟨(d6 j j0 j1).1, Inv_mono (d6 j j0 j1).2.1 h, (d6 j j0 j1).2.2⟩⟩, e1, e2, fun h' => ⟨(e3 h').1, Inv_mono (e3 h').2.1 h, (e3 h').2.2⟩⟩
theorem Big_v {u v : Nat → Int → Int32} (B : Big b s) (h1 : PlnF s u) (h2 : MwF u v) {k : Int} : Big b (q_u v 285 0 k) := Big_sm B (fun k z hz => by
  unfold relz relc at hz
  rw [q_u_n (by omega), h2 k z (by omega) (by omega), h1 k z (by omega)])
theorem op_commit (B : Big b s) (hb : b < 2147483646) : Op (Big (b + 1)) (fun h => EV (d + 40) 10 0 [.ref 1, .ref 312, .null] [] h) (fun h => EV (d + 40) 308 0 [.ref 285, .null] [] h) L xs s O c := by
  rcases planW (d := d + 22) (L := L) (xs := xs) (O := O) (c := c) B hb rfl with ⟨u, u1, u2, u3, u4⟩ | ⟨u, u1, u3, u4⟩ | ⟨T, Lf, sc, u, u0, u1, u2, u3, u4⟩
  · obtain ⟨w, w1, w2, w3⟩ := comN (d := d + 31) (L := L) (xs := xs) (O := O) (c := c) (pw := 1000) (pw' := 2000000000) (dr := false) B rfl u2 u3
    obtain ⟨v, v1, v2, v3, v4⟩ := u4 w (d + 19) (vp_updL O 0 (q_I 0).toInt64) c w2
    obtain ⟨t, t2, t3, t4, t5, t6, t7⟩ := w3 v (d + 1) (vp_updL O 0 (q_I 0).toInt64) c (MwG_F v4) v3
    have e0 : bI false = 0 := rfl
    rw [e0] at w1 t4
    have g0 : q_g (q_u v 285 0 0) 285 0 = 0 := by rw [q_gu_eq rfl]; rfl
    have g1 : q_g (q_u t2 286 8 0) 285 0 = 0 := by rw [q_gu_ne (by omega), t5]
    have g2 : q_g (q_u t2 286 8 0) 285 39 = 0 := by rw [q_gu_ne (by omega), t6]
    refine ⟨0, 0, w, q_u t2 286 8 0, vp_updL O 0 (q_I 0).toInt64, c, ?_, ?_, by omega, by omega, g1, fun _ => rfl, Or.inl rfl, t7⟩
    · simp (disch := first | omega | exact q_b_01 _) only [↓reduceIte, q_bk0, q_bk1, q_bk2, q_sg_b, q_b_0, q_b_n0, q_b_1, q_b_n1, q_b_T, q_b_F, q_sg_g, q_sg_sg, q_sg_xs, q_sg_id, q_gu_ne, q_gu_eq, q_g_fne, q_g_cpe, q_w_f, q_v_f, q_u_f, q_fn_f, q_cp_f, q_sg_pg, q_sg_hc, q_lt_t, q_lt_f, q_le_t, q_le_f, q_eq_t, q_eq_f, ne_eq, eq_self, Bool.false_eq_true, Bool.true_eq_false, not_true_eq_false, not_false_eq_true, true_and, and_true, false_and, and_false, true_or, or_true, false_or, or_false, if_true, if_false, Int.reduceAdd, Int.reduceMul, Int.reduceSub, Int.reduceNeg, u1, w1, R_10_0, R_10_6, R_10_8, R_10_12, C_10_3, R_149_0, R_149_4, R_149_10, R_149_18, R_149_26, C_149_1, C_149_23, q_lst, K_10_1]
    · simp (disch := first | omega | exact q_b_01 _) only [↓reduceIte, q_bk0, q_bk1, q_bk2, q_sg_b, q_b_0, q_b_n0, q_b_1, q_b_n1, q_b_T, q_b_F, q_sg_g, q_sg_sg, q_sg_xs, q_sg_id, q_gu_ne, q_gu_eq, q_g_fne, q_g_cpe, q_w_f, q_v_f, q_u_f, q_fn_f, q_cp_f, q_sg_pg, q_sg_hc, q_lt_t, q_lt_f, q_le_t, q_le_f, q_eq_t, q_eq_f, ne_eq, eq_self, Bool.false_eq_true, Bool.true_eq_false, not_true_eq_false, not_false_eq_true, true_and, and_true, false_and, and_false, true_or, or_true, false_or, or_false, if_true, if_false, Int.reduceAdd, Int.reduceMul, Int.reduceSub, Int.reduceNeg, v1, v2, g0, t3, t4, g1, g2, R_308_0, R_308_8, R_308_16, R_308_20, R_308_24, C_308_5, R_307_0, R_307_4, R_307_12, R_307_16, R_307_17, R_307_20, R_307_27, R_307_29, R_307_33, R_307_39, R_307_49, C_307_1, C_307_30, C_307_36]
  · obtain ⟨v, v1, v2, v3, v4⟩ := u4 u (d + 19) O (q_th c) (funext fun z => by
      show (u 286 z).toInt = _
      rw [u3 286 z (by omega)]
      rfl)
    have g0 : q_g (q_u v 285 0 1) 285 0 = 1 := by rw [q_gu_eq rfl]; rfl
    refine ⟨1, 0, u, q_u v 285 0 1, O, q_th c, ?_, ?_, by omega, by omega, g0, by omega, Or.inr rfl, Big_mono (Big_v B u3 v4) (by omega)⟩
    · simp (disch := first | omega | exact q_b_01 _) only [↓reduceIte, q_bk0, q_bk1, q_bk2, q_sg_b, q_b_0, q_b_n0, q_b_1, q_b_n1, q_b_T, q_b_F, q_sg_g, q_sg_sg, q_sg_xs, q_sg_id, q_gu_ne, q_gu_eq, q_g_fne, q_g_cpe, q_w_f, q_v_f, q_u_f, q_fn_f, q_cp_f, q_sg_pg, q_sg_hc, q_lt_t, q_lt_f, q_le_t, q_le_f, q_eq_t, q_eq_f, ne_eq, eq_self, Bool.false_eq_true, Bool.true_eq_false, not_true_eq_false, not_false_eq_true, true_and, and_true, false_and, and_false, true_or, or_true, false_or, or_false, if_true, if_false, Int.reduceAdd, Int.reduceMul, Int.reduceSub, Int.reduceNeg, u1, R_10_0, R_10_6, R_10_8, R_10_12, C_10_3, R_149_0, R_149_4, R_149_10, R_149_18, R_149_26, C_149_1, C_149_23, K_10_1]
    · simp (disch := first | omega | exact q_b_01 _) only [↓reduceIte, q_bk0, q_bk1, q_bk2, q_sg_b, q_b_0, q_b_n0, q_b_1, q_b_n1, q_b_T, q_b_F, q_sg_g, q_sg_sg, q_sg_xs, q_sg_id, q_gu_ne, q_gu_eq, q_g_fne, q_g_cpe, q_w_f, q_v_f, q_u_f, q_fn_f, q_cp_f, q_sg_pg, q_sg_hc, q_lt_t, q_lt_f, q_le_t, q_le_f, q_eq_t, q_eq_f, ne_eq, eq_self, Bool.false_eq_true, Bool.true_eq_false, not_true_eq_false, not_false_eq_true, true_and, and_true, false_and, and_false, true_or, or_true, false_or, or_false, if_true, if_false, Int.reduceAdd, Int.reduceMul, Int.reduceSub, Int.reduceNeg, v1, v2, g0, R_308_0, R_308_8, R_308_16, R_308_20, R_308_24, C_308_5, R_307_0, R_307_4, R_307_12, R_307_16, R_307_17, R_307_20, R_307_27, R_307_29, R_307_33, R_307_39, R_307_49, C_307_1, C_307_30, C_307_36]
  · obtain ⟨w, ans, w1, a3, w2, w3⟩ := comG (d := d + 31) (L := L) (xs := xs) (O := O) (c := c) (pw := 1000) (pw' := 2000000000) (dr := false) B hb rfl u0 u2 u3 (by omega) (by omega) (by omega) (by omega) (Or.inr (Or.inr ⟨by omega, by omega⟩))
    obtain ⟨Lv, D, PT, LP, OL, DP, Sc, Kc, kn, -⟩ := id u0
    have s0 := Sc.1
    have s8 := Sc.2.1
    have cp := TK_ct (inv_tk B.1.2.1 (by omega)) (show 0 ≤ cNo T + sc by omega) Kc
    obtain ⟨v, v1, v2, v3, v4⟩ := u4 w (d + 19) (vp_updL O 0 (q_I (cNo T + sc + 1)).toInt64) c w2
    obtain ⟨t, t2, t3, t4, t5, t6, t7⟩ := w3 v (d + 1) (vp_updL O 0 (q_I (cNo T + sc + 1)).toInt64) c (MwG_F v4) v3
    have e0 : bI false = 0 := rfl
    rw [e0] at w1 t4
    have g0 : q_g (q_u v 285 0 0) 285 0 = 0 := by rw [q_gu_eq rfl]; rfl
    have g1 : q_g (q_u t2 286 8 0) 285 0 = 0 := by rw [q_gu_ne (by omega), t5]
    have g2 : q_g (q_u t2 286 8 0) 285 39 = cNo T + sc + 1 := by rw [q_gu_ne (by omega), t6]; exact v3.1
    refine ⟨0, cNo T + sc + 1, w, q_u t2 286 8 0, vp_updL O 0 (q_I (cNo T + sc + 1)).toInt64, c, ?_, ?_, by omega, by omega, g1, fun _ => rfl, Or.inl rfl, t7⟩
    · simp (disch := first | omega | exact q_b_01 _) only [↓reduceIte, q_bk0, q_bk1, q_bk2, q_sg_b, q_b_0, q_b_n0, q_b_1, q_b_n1, q_b_T, q_b_F, q_sg_g, q_sg_sg, q_sg_xs, q_sg_id, q_gu_ne, q_gu_eq, q_g_fne, q_g_cpe, q_w_f, q_v_f, q_u_f, q_fn_f, q_cp_f, q_sg_pg, q_sg_hc, q_lt_t, q_lt_f, q_le_t, q_le_f, q_eq_t, q_eq_f, ne_eq, eq_self, Bool.false_eq_true, Bool.true_eq_false, not_true_eq_false, not_false_eq_true, true_and, and_true, false_and, and_false, true_or, or_true, false_or, or_false, if_true, if_false, Int.reduceAdd, Int.reduceMul, Int.reduceSub, Int.reduceNeg, u1, w1, R_10_0, R_10_6, R_10_8, R_10_12, C_10_3, R_149_0, R_149_4, R_149_10, R_149_18, R_149_26, C_149_1, C_149_23, q_lst, K_10_1]
    · simp (disch := first | omega | exact a3) only [↓reduceIte, q_bk0, q_bk1, q_bk2, q_sg_b, q_b_0, q_b_n0, q_b_1, q_b_n1, q_b_T, q_b_F, q_sg_g, q_sg_sg, q_sg_xs, q_sg_id, q_gu_ne, q_gu_eq, q_g_fne, q_g_cpe, q_w_f, q_v_f, q_u_f, q_fn_f, q_cp_f, q_sg_pg, q_sg_hc, q_lt_t, q_lt_f, q_le_t, q_le_f, q_eq_t, q_eq_f, ne_eq, eq_self, Bool.false_eq_true, Bool.true_eq_false, not_true_eq_false, not_false_eq_true, true_and, and_true, false_and, and_false, true_or, or_true, false_or, or_false, if_true, if_false, Int.reduceAdd, Int.reduceMul, Int.reduceSub, Int.reduceNeg, v1, v2, g0, t3, t4, g1, g2, R_308_0, R_308_8, R_308_16, R_308_20, R_308_24, C_308_5, R_307_0, R_307_4, R_307_12, R_307_16, R_307_17, R_307_20, R_307_27, R_307_29, R_307_33, R_307_39, R_307_49, C_307_1, C_307_30, C_307_36]
theorem Big_w {u v : Nat → Int → Int32} (B : Big b s) (h1 : PlnF s u) (h2 : MwG u v) {k : Int} : Big b (q_u v 285 0 k) := Big_sm B (fun k z hz => by
  unfold relz relc at hz
  rw [q_u_n (by omega), h2 k z (by omega) (by omega), h1 k z (by omega)])
theorem op_cut (B : Big b s) (hb : b < 2147483646) {n : Int} (v1' : -2147483648 ≤ n) (v2' : n < 2147483648) : OpB (Big (b + 1)) (fun h => EV (d + 40) 11 0 [.ref 1, .int (q_I (n)), .ref 312, .null] [] h) (fun h => EV (d + 40) 309 0 [.ref 285, .int (q_I (n))] [] h) L xs s O c := by
  have e0 : bI false = 0 := rfl
  by_cases hn : 0 ≤ n ∧ n ≤ 99
  · rcases planW (d := d + 22) (L := L) (xs := xs) (O := O) (c := c) B hb rfl with ⟨u, u1, u2, u3, u4⟩ | ⟨u, u1, u3, u4⟩ | ⟨T, Lf, sc, u, u0, u1, u2, u3, u4⟩
    · obtain ⟨w, w1, w2, w3⟩ := comN (d := d + 31) (L := L) (xs := xs) (O := O) (c := c) (pw := n) (pw' := n) (dr := false) B rfl u2 u3
      obtain ⟨v, v1, v2, v3, v4⟩ := u4 (q_u w 285 0 0) (d + 19) (vp_updL O 0 (Int64.ofNat 0)) c (by rw [q_u_f (by omega)]; exact w2)
      obtain ⟨t, t2, t3, t4, t5, t6, t7⟩ := w3 v (d + 1) (vp_updL O 0 (Int64.ofNat 0)) c (MwG_0 v4) v3
      rw [e0] at w1 t4
      have gw : q_g (q_u w 285 0 0) 285 0 = 0 := by rw [q_gu_eq rfl]; rfl
      have g0 : q_g (q_u v 285 0 0) 285 0 = 0 := by rw [q_gu_eq rfl]; rfl
      have g1 : q_g (q_u t2 286 8 0) 285 0 = 0 := by rw [q_gu_ne (by omega), t5]
      refine ⟨0, 0, w, q_u t2 286 8 0, vp_updL O 0 (Int64.ofNat 0), c, ?_, ?_, by omega, by omega, g1, fun _ => rfl, Or.inl rfl, t7, Or.inl rfl⟩
      · simp (disch := first | omega | exact q_b_01 _) only [↓reduceIte, q_bk0, q_bk1, q_bk2, q_sg_b, q_b_0, q_b_n0, q_b_1, q_b_n1, q_b_T, q_b_F, q_sg_g, q_sg_sg, q_sg_xs, q_sg_id, q_gu_ne, q_gu_eq, q_g_fne, q_g_cpe, q_w_f, q_v_f, q_u_f, q_fn_f, q_cp_f, q_sg_pg, q_sg_hc, q_lt_t, q_lt_f, q_le_t, q_le_f, q_eq_t, q_eq_f, ne_eq, eq_self, Bool.false_eq_true, Bool.true_eq_false, not_true_eq_false, not_false_eq_true, true_and, and_true, false_and, and_false, true_or, or_true, false_or, or_false, if_true, if_false, Int.reduceAdd, Int.reduceMul, Int.reduceSub, Int.reduceNeg, u1, w1, R_11_0, R_11_7, R_11_10, R_11_14, R_11_15, R_11_16, R_11_20, R_11_23, C_11_4, R_150_0, R_150_4, R_150_10, R_150_18, R_150_22, R_150_26, R_150_34, R_150_40, C_150_19, C_150_37, q_lst, K_11_0, K_11_1]
      · simp (disch := first | omega | exact q_b_01 _) only [↓reduceIte, q_bk0, q_bk1, q_bk2, q_sg_b, q_b_0, q_b_n0, q_b_1, q_b_n1, q_b_T, q_b_F, q_sg_g, q_sg_sg, q_sg_xs, q_sg_id, q_gu_ne, q_gu_eq, q_g_fne, q_g_cpe, q_w_f, q_v_f, q_u_f, q_fn_f, q_cp_f, q_sg_pg, q_sg_hc, q_lt_t, q_lt_f, q_le_t, q_le_f, q_eq_t, q_eq_f, ne_eq, eq_self, Bool.false_eq_true, Bool.true_eq_false, not_true_eq_false, not_false_eq_true, true_and, and_true, false_and, and_false, true_or, or_true, false_or, or_false, if_true, if_false, Int.reduceAdd, Int.reduceMul, Int.reduceSub, Int.reduceNeg, gw, v1, v2, g0, t3, t4, R_309_0, R_309_8, R_309_11, R_309_15, R_309_16, R_309_19, R_309_26, R_309_33, R_309_36, R_309_40, R_309_41, C_309_5, C_309_30, R_307_0, R_307_4, R_307_12, R_307_16, R_307_17, R_307_20, R_307_27, R_307_29, R_307_33, R_307_39, R_307_49, C_307_1, C_307_30, C_307_36, mm_isIn]
    · obtain ⟨v, v1, v2, v3, v4⟩ := u4 (q_u u 285 0 0) (d + 19) O (q_th c) (by
        rw [q_u_f (by omega)]
        exact funext fun z => by
          show (u 286 z).toInt = _
          rw [u3 286 z (by omega)]
          rfl)
      have gw : q_g (q_u u 285 0 0) 285 0 = 0 := by rw [q_gu_eq rfl]; rfl
      have g0 : q_g (q_u v 285 0 2) 285 0 = 2 := by rw [q_gu_eq rfl]; rfl
      refine ⟨2, 0, u, q_u v 285 0 2, O, q_th c, ?_, ?_, by omega, by omega, g0, by omega, Or.inr rfl, Big_mono (Big_w B u3 (MwG_0 v4)) (by omega), Or.inl rfl⟩
      · simp (disch := first | omega | exact q_b_01 _) only [↓reduceIte, q_bk0, q_bk1, q_bk2, q_sg_b, q_b_0, q_b_n0, q_b_1, q_b_n1, q_b_T, q_b_F, q_sg_g, q_sg_sg, q_sg_xs, q_sg_id, q_gu_ne, q_gu_eq, q_g_fne, q_g_cpe, q_w_f, q_v_f, q_u_f, q_fn_f, q_cp_f, q_sg_pg, q_sg_hc, q_lt_t, q_lt_f, q_le_t, q_le_f, q_eq_t, q_eq_f, ne_eq, eq_self, Bool.false_eq_true, Bool.true_eq_false, not_true_eq_false, not_false_eq_true, true_and, and_true, false_and, and_false, true_or, or_true, false_or, or_false, if_true, if_false, Int.reduceAdd, Int.reduceMul, Int.reduceSub, Int.reduceNeg, u1, R_11_0, R_11_7, R_11_10, R_11_14, R_11_15, R_11_16, R_11_20, R_11_23, C_11_4, R_150_0, R_150_4, R_150_10, R_150_18, R_150_22, R_150_26, R_150_34, R_150_40, C_150_19, C_150_37, K_11_0, K_11_1]
      · simp (disch := first | omega | exact q_b_01 _) only [↓reduceIte, q_bk0, q_bk1, q_bk2, q_sg_b, q_b_0, q_b_n0, q_b_1, q_b_n1, q_b_T, q_b_F, q_sg_g, q_sg_sg, q_sg_xs, q_sg_id, q_gu_ne, q_gu_eq, q_g_fne, q_g_cpe, q_w_f, q_v_f, q_u_f, q_fn_f, q_cp_f, q_sg_pg, q_sg_hc, q_lt_t, q_lt_f, q_le_t, q_le_f, q_eq_t, q_eq_f, ne_eq, eq_self, Bool.false_eq_true, Bool.true_eq_false, not_true_eq_false, not_false_eq_true, true_and, and_true, false_and, and_false, true_or, or_true, false_or, or_false, if_true, if_false, Int.reduceAdd, Int.reduceMul, Int.reduceSub, Int.reduceNeg, gw, v1, v2, g0, R_309_0, R_309_8, R_309_11, R_309_15, R_309_16, R_309_19, R_309_26, R_309_33, R_309_36, R_309_40, R_309_41, C_309_5, C_309_30, R_307_0, R_307_4, R_307_12, R_307_16, R_307_17, R_307_20, R_307_27, R_307_29, R_307_33, R_307_39, R_307_49, C_307_1, C_307_30, C_307_36, mm_isIn]
    · obtain ⟨w, ans, w1, a3, w2, w3⟩ := comG (d := d + 31) (L := L) (xs := xs) (O := O) (c := c) (pw := n) (pw' := n) (dr := false) B hb rfl u0 u2 u3 v1' v2' v1' v2' (Or.inr (Or.inl rfl))
      obtain ⟨Lv, D, PT, LP, OL, DP, Sc, Kc, kn, -⟩ := id u0
      have s0 := Sc.1
      have s8 := Sc.2.1
      have cp := TK_ct (inv_tk B.1.2.1 (by omega)) (show 0 ≤ cNo T + sc by omega) Kc
      have gw : q_g (q_u w 285 0 0) 285 0 = 0 := by rw [q_gu_eq rfl]; rfl
      obtain ⟨v, v1, v2, v3, v4⟩ := u4 (q_u w 285 0 0) (d + 19) (vp_updL O 0 (q_I ans).toInt64) c (by rw [q_u_f (by omega)]; exact w2)
      obtain ⟨t, t2, t3, t4, t5, t6, t7⟩ := w3 v (d + 1) (vp_updL O 0 (q_I ans).toInt64) c (MwG_0 v4) v3
      rw [e0] at w1 t4
      have g0 : q_g (q_u v 285 0 0) 285 0 = 0 := by rw [q_gu_eq rfl]; rfl
      have g1 : q_g (q_u t2 286 8 0) 285 0 = 0 := by rw [q_gu_ne (by omega), t5]
      refine ⟨0, ans, w, q_u t2 286 8 0, vp_updL O 0 (q_I ans).toInt64, c, ?_, ?_, by omega, by omega, g1, fun _ => rfl, Or.inl rfl, t7, a3⟩
      · rcases a3 with a3 | a3
        · subst a3
          simp (disch := first | omega | exact q_b_01 _) only [↓reduceIte, q_bk0, q_bk1, q_bk2, q_sg_b, q_b_0, q_b_n0, q_b_1, q_b_n1, q_b_T, q_b_F, q_sg_g, q_sg_sg, q_sg_xs, q_sg_id, q_gu_ne, q_gu_eq, q_g_fne, q_g_cpe, q_w_f, q_v_f, q_u_f, q_fn_f, q_cp_f, q_sg_pg, q_sg_hc, q_lt_t, q_lt_f, q_le_t, q_le_f, q_eq_t, q_eq_f, ne_eq, eq_self, Bool.false_eq_true, Bool.true_eq_false, not_true_eq_false, not_false_eq_true, true_and, and_true, false_and, and_false, true_or, or_true, false_or, or_false, if_true, if_false, Int.reduceAdd, Int.reduceMul, Int.reduceSub, Int.reduceNeg, u1, w1, R_11_0, R_11_7, R_11_10, R_11_14, R_11_15, R_11_16, R_11_20, R_11_23, C_11_4, R_150_0, R_150_4, R_150_10, R_150_18, R_150_22, R_150_26, R_150_34, R_150_40, C_150_19, C_150_37, q_lst, K_11_0, K_11_1]
          rfl
        · subst a3
          simp (disch := first | omega | exact q_b_01 _) only [↓reduceIte, q_bk0, q_bk1, q_bk2, q_sg_b, q_b_0, q_b_n0, q_b_1, q_b_n1, q_b_T, q_b_F, q_sg_g, q_sg_sg, q_sg_xs, q_sg_id, q_gu_ne, q_gu_eq, q_g_fne, q_g_cpe, q_w_f, q_v_f, q_u_f, q_fn_f, q_cp_f, q_sg_pg, q_sg_hc, q_lt_t, q_lt_f, q_le_t, q_le_f, q_eq_t, q_eq_f, ne_eq, eq_self, Bool.false_eq_true, Bool.true_eq_false, not_true_eq_false, not_false_eq_true, true_and, and_true, false_and, and_false, true_or, or_true, false_or, or_false, if_true, if_false, Int.reduceAdd, Int.reduceMul, Int.reduceSub, Int.reduceNeg, u1, w1, R_11_0, R_11_7, R_11_10, R_11_14, R_11_15, R_11_16, R_11_20, R_11_23, C_11_4, R_150_0, R_150_4, R_150_10, R_150_18, R_150_22, R_150_26, R_150_34, R_150_40, C_150_19, C_150_37, q_lst, K_11_0, K_11_1]
          rfl
      · rcases a3 with a3 | a3
        · subst a3
          simp (disch := first | omega | exact q_b_01 _) only [↓reduceIte, q_bk0, q_bk1, q_bk2, q_sg_b, q_b_0, q_b_n0, q_b_1, q_b_n1, q_b_T, q_b_F, q_sg_g, q_sg_sg, q_sg_xs, q_sg_id, q_gu_ne, q_gu_eq, q_g_fne, q_g_cpe, q_w_f, q_v_f, q_u_f, q_fn_f, q_cp_f, q_sg_pg, q_sg_hc, q_lt_t, q_lt_f, q_le_t, q_le_f, q_eq_t, q_eq_f, ne_eq, eq_self, Bool.false_eq_true, Bool.true_eq_false, not_true_eq_false, not_false_eq_true, true_and, and_true, false_and, and_false, true_or, or_true, false_or, or_false, if_true, if_false, Int.reduceAdd, Int.reduceMul, Int.reduceSub, Int.reduceNeg, gw, v1, v2, g0, t3, t4, R_309_0, R_309_8, R_309_11, R_309_15, R_309_16, R_309_19, R_309_26, R_309_33, R_309_36, R_309_40, R_309_41, C_309_5, C_309_30, R_307_0, R_307_4, R_307_12, R_307_16, R_307_17, R_307_20, R_307_27, R_307_29, R_307_33, R_307_39, R_307_49, C_307_1, C_307_30, C_307_36, mm_isIn]
        · subst a3
          simp (disch := first | omega | exact q_b_01 _) only [↓reduceIte, q_bk0, q_bk1, q_bk2, q_sg_b, q_b_0, q_b_n0, q_b_1, q_b_n1, q_b_T, q_b_F, q_sg_g, q_sg_sg, q_sg_xs, q_sg_id, q_gu_ne, q_gu_eq, q_g_fne, q_g_cpe, q_w_f, q_v_f, q_u_f, q_fn_f, q_cp_f, q_sg_pg, q_sg_hc, q_lt_t, q_lt_f, q_le_t, q_le_f, q_eq_t, q_eq_f, ne_eq, eq_self, Bool.false_eq_true, Bool.true_eq_false, not_true_eq_false, not_false_eq_true, true_and, and_true, false_and, and_false, true_or, or_true, false_or, or_false, if_true, if_false, Int.reduceAdd, Int.reduceMul, Int.reduceSub, Int.reduceNeg, gw, v1, v2, g0, t3, t4, R_309_0, R_309_8, R_309_11, R_309_15, R_309_16, R_309_19, R_309_26, R_309_33, R_309_36, R_309_40, R_309_41, C_309_5, C_309_30, R_307_0, R_307_4, R_307_12, R_307_16, R_307_17, R_307_20, R_307_27, R_307_29, R_307_33, R_307_39, R_307_49, C_307_1, C_307_30, C_307_36, mm_isIn]
  · refine ⟨1, 0, s, q_u s 285 0 1, O, q_th c, ?_, ?_, by omega, by omega, by rw [q_gu_eq rfl]; rfl, by omega, Or.inr rfl, Big_mono (Big_sm B (Sm_u Sm_rfl (by unfold relz relc; omega))) (by omega), Or.inl rfl⟩
    · by_cases h2 : n < 0
      · simp (disch := first | omega | exact q_b_01 _) only [↓reduceIte, q_bk0, q_bk1, q_bk2, q_sg_b, q_b_0, q_b_n0, q_b_1, q_b_n1, q_b_T, q_b_F, q_sg_g, q_sg_sg, q_sg_xs, q_sg_id, q_gu_ne, q_gu_eq, q_g_fne, q_g_cpe, q_w_f, q_v_f, q_u_f, q_fn_f, q_cp_f, q_sg_pg, q_sg_hc, q_lt_t, q_lt_f, q_le_t, q_le_f, q_eq_t, q_eq_f, ne_eq, eq_self, Bool.false_eq_true, Bool.true_eq_false, not_true_eq_false, not_false_eq_true, true_and, and_true, false_and, and_false, true_or, or_true, false_or, or_false, if_true, if_false, Int.reduceAdd, Int.reduceMul, Int.reduceSub, Int.reduceNeg, R_11_0, R_11_7, R_11_10, R_11_14, R_11_15, R_11_16, R_11_20, R_11_23, C_11_4, R_150_0, R_150_4, R_150_10, R_150_18, R_150_22, R_150_26, R_150_34, R_150_40, C_150_19, C_150_37, K_11_0, K_11_1]
      · simp (disch := first | omega | exact q_b_01 _) only [↓reduceIte, q_bk0, q_bk1, q_bk2, q_sg_b, q_b_0, q_b_n0, q_b_1, q_b_n1, q_b_T, q_b_F, q_sg_g, q_sg_sg, q_sg_xs, q_sg_id, q_gu_ne, q_gu_eq, q_g_fne, q_g_cpe, q_w_f, q_v_f, q_u_f, q_fn_f, q_cp_f, q_sg_pg, q_sg_hc, q_lt_t, q_lt_f, q_le_t, q_le_f, q_eq_t, q_eq_f, ne_eq, eq_self, Bool.false_eq_true, Bool.true_eq_false, not_true_eq_false, not_false_eq_true, true_and, and_true, false_and, and_false, true_or, or_true, false_or, or_false, if_true, if_false, Int.reduceAdd, Int.reduceMul, Int.reduceSub, Int.reduceNeg, R_11_0, R_11_7, R_11_10, R_11_14, R_11_15, R_11_16, R_11_20, R_11_23, C_11_4, R_150_0, R_150_4, R_150_10, R_150_18, R_150_22, R_150_26, R_150_34, R_150_40, C_150_19, C_150_37, K_11_0, K_11_1]
    · have g1 : ¬ q_g (q_u s 285 0 1) 285 0 = 0 := by
        rw [q_gu_eq rfl]
        decide
      simp (disch := first | omega | exact q_b_01 _) only [↓reduceIte, q_bk0, q_bk1, q_bk2, q_sg_b, q_b_0, q_b_n0, q_b_1, q_b_n1, q_b_T, q_b_F, q_sg_g, q_sg_sg, q_sg_xs, q_sg_id, q_gu_ne, q_gu_eq, q_g_fne, q_g_cpe, q_w_f, q_v_f, q_u_f, q_fn_f, q_cp_f, q_sg_pg, q_sg_hc, q_lt_t, q_lt_f, q_le_t, q_le_f, q_eq_t, q_eq_f, ne_eq, eq_self, Bool.false_eq_true, Bool.true_eq_false, not_true_eq_false, not_false_eq_true, true_and, and_true, false_and, and_false, true_or, or_true, false_or, or_false, if_true, if_false, Int.reduceAdd, Int.reduceMul, Int.reduceSub, Int.reduceNeg, hn, g1, R_309_0, R_309_8, R_309_11, R_309_15, R_309_16, R_309_19, R_309_26, R_309_33, R_309_36, R_309_40, R_309_41, C_309_5, C_309_30, mm_isIn]
theorem op_store (B : Big b s) (hb : b < 2147483646) : OpB (Big (b + 1)) (fun h => EV (d + 40) 12 0 [.ref 1, .ref 312, .null] [] h) (fun h => EV (d + 40) 310 0 [.ref 285] [] h) L xs s O c := by
  have e0 : bI true = 1 := rfl
  rcases planW (d := d + 22) (L := L) (xs := xs) (O := O) (c := c) B hb rfl with ⟨u, u1, u2, u3, u4⟩ | ⟨u, u1, u3, u4⟩ | ⟨T, Lf, sc, u, u0, u1, u2, u3, u4⟩
  · obtain ⟨w, w1, w2, w3⟩ := comN (d := d + 31) (L := L) (xs := xs) (O := O) (c := c) (pw := 1000) (pw' := 0) (dr := true) B rfl u2 u3
    obtain ⟨v, v1, v2, v3, v4⟩ := u4 w (d + 19) (vp_updL O 0 (Int64.ofNat 0)) c w2
    obtain ⟨t, t2, t3, t4, t5, t6, t7⟩ := w3 v (d + 1) (vp_updL O 0 (Int64.ofNat 0)) c (MwG_F v4) v3
    rw [e0] at w1 t4
    have g0 : q_g (q_u v 285 0 0) 285 0 = 0 := by rw [q_gu_eq rfl]; rfl
    have g1 : q_g (q_u t2 286 8 0) 285 0 = 0 := by rw [q_gu_ne (by omega), t5]
    refine ⟨0, 0, w, q_u t2 286 8 0, vp_updL O 0 (Int64.ofNat 0), c, ?_, ?_, by omega, by omega, g1, fun _ => rfl, Or.inl rfl, t7, Or.inl rfl⟩
    · simp (disch := first | omega | exact q_b_01 _) only [↓reduceIte, q_bk0, q_bk1, q_bk2, q_sg_b, q_b_0, q_b_n0, q_b_1, q_b_n1, q_b_T, q_b_F, q_sg_g, q_sg_sg, q_sg_xs, q_sg_id, q_gu_ne, q_gu_eq, q_g_fne, q_g_cpe, q_w_f, q_v_f, q_u_f, q_fn_f, q_cp_f, q_sg_pg, q_sg_hc, q_lt_t, q_lt_f, q_le_t, q_le_f, q_eq_t, q_eq_f, ne_eq, eq_self, Bool.false_eq_true, Bool.true_eq_false, not_true_eq_false, not_false_eq_true, true_and, and_true, false_and, and_false, true_or, or_true, false_or, or_false, if_true, if_false, Int.reduceAdd, Int.reduceMul, Int.reduceSub, Int.reduceNeg, u1, w1, R_12_0, R_12_6, R_12_9, R_12_13, R_12_14, R_12_15, R_12_19, C_12_3, R_151_0, R_151_4, R_151_8, R_151_16, R_151_24, C_151_1, C_151_21, q_lst, K_12_1]
    · simp (disch := first | omega | exact q_b_01 _) only [↓reduceIte, q_bk0, q_bk1, q_bk2, q_sg_b, q_b_0, q_b_n0, q_b_1, q_b_n1, q_b_T, q_b_F, q_sg_g, q_sg_sg, q_sg_xs, q_sg_id, q_gu_ne, q_gu_eq, q_g_fne, q_g_cpe, q_w_f, q_v_f, q_u_f, q_fn_f, q_cp_f, q_sg_pg, q_sg_hc, q_lt_t, q_lt_f, q_le_t, q_le_f, q_eq_t, q_eq_f, ne_eq, eq_self, Bool.false_eq_true, Bool.true_eq_false, not_true_eq_false, not_false_eq_true, true_and, and_true, false_and, and_false, true_or, or_true, false_or, or_false, if_true, if_false, Int.reduceAdd, Int.reduceMul, Int.reduceSub, Int.reduceNeg, v1, v2, g0, t3, t4, R_310_0, R_310_7, C_310_4, R_307_0, R_307_4, R_307_12, R_307_16, R_307_17, R_307_20, R_307_27, R_307_29, R_307_33, R_307_39, R_307_49, C_307_1, C_307_30, C_307_36]
  · obtain ⟨v, v1, v2, v3, v4⟩ := u4 u (d + 19) O (q_th c) (funext fun z => by
      show (u 286 z).toInt = _
      rw [u3 286 z (by omega)]
      rfl)
    have g0 : q_g (q_u v 285 0 1) 285 0 = 1 := by rw [q_gu_eq rfl]; rfl
    refine ⟨1, 0, u, q_u v 285 0 1, O, q_th c, ?_, ?_, by omega, by omega, g0, by omega, Or.inr rfl, Big_mono (Big_v B u3 v4) (by omega), Or.inl rfl⟩
    · simp (disch := first | omega | exact q_b_01 _) only [↓reduceIte, q_bk0, q_bk1, q_bk2, q_sg_b, q_b_0, q_b_n0, q_b_1, q_b_n1, q_b_T, q_b_F, q_sg_g, q_sg_sg, q_sg_xs, q_sg_id, q_gu_ne, q_gu_eq, q_g_fne, q_g_cpe, q_w_f, q_v_f, q_u_f, q_fn_f, q_cp_f, q_sg_pg, q_sg_hc, q_lt_t, q_lt_f, q_le_t, q_le_f, q_eq_t, q_eq_f, ne_eq, eq_self, Bool.false_eq_true, Bool.true_eq_false, not_true_eq_false, not_false_eq_true, true_and, and_true, false_and, and_false, true_or, or_true, false_or, or_false, if_true, if_false, Int.reduceAdd, Int.reduceMul, Int.reduceSub, Int.reduceNeg, u1, R_12_0, R_12_6, R_12_9, R_12_13, R_12_14, R_12_15, R_12_19, C_12_3, R_151_0, R_151_4, R_151_8, R_151_16, R_151_24, C_151_1, C_151_21, K_12_1]
    · simp (disch := first | omega | exact q_b_01 _) only [↓reduceIte, q_bk0, q_bk1, q_bk2, q_sg_b, q_b_0, q_b_n0, q_b_1, q_b_n1, q_b_T, q_b_F, q_sg_g, q_sg_sg, q_sg_xs, q_sg_id, q_gu_ne, q_gu_eq, q_g_fne, q_g_cpe, q_w_f, q_v_f, q_u_f, q_fn_f, q_cp_f, q_sg_pg, q_sg_hc, q_lt_t, q_lt_f, q_le_t, q_le_f, q_eq_t, q_eq_f, ne_eq, eq_self, Bool.false_eq_true, Bool.true_eq_false, not_true_eq_false, not_false_eq_true, true_and, and_true, false_and, and_false, true_or, or_true, false_or, or_false, if_true, if_false, Int.reduceAdd, Int.reduceMul, Int.reduceSub, Int.reduceNeg, v1, v2, g0, R_310_0, R_310_7, C_310_4, R_307_0, R_307_4, R_307_12, R_307_16, R_307_17, R_307_20, R_307_27, R_307_29, R_307_33, R_307_39, R_307_49, C_307_1, C_307_30, C_307_36]
  · obtain ⟨w, ans, w1, a3, w2, w3⟩ := comG (d := d + 31) (L := L) (xs := xs) (O := O) (c := c) (pw := 1000) (pw' := 0) (dr := true) B hb rfl u0 u2 u3 (by omega) (by omega) (by omega) (by omega) (Or.inl rfl)
    obtain ⟨Lv, D, PT, LP, OL, DP, Sc, Kc, kn, -⟩ := id u0
    have s0 := Sc.1
    have s8 := Sc.2.1
    have cp := TK_ct (inv_tk B.1.2.1 (by omega)) (show 0 ≤ cNo T + sc by omega) Kc
    obtain ⟨v, v1, v2, v3, v4⟩ := u4 w (d + 19) (vp_updL O 0 (q_I ans).toInt64) c w2
    obtain ⟨t, t2, t3, t4, t5, t6, t7⟩ := w3 v (d + 1) (vp_updL O 0 (q_I ans).toInt64) c (MwG_F v4) v3
    rw [e0] at w1 t4
    have g0 : q_g (q_u v 285 0 0) 285 0 = 0 := by rw [q_gu_eq rfl]; rfl
    have g1 : q_g (q_u t2 286 8 0) 285 0 = 0 := by rw [q_gu_ne (by omega), t5]
    refine ⟨0, ans, w, q_u t2 286 8 0, vp_updL O 0 (q_I ans).toInt64, c, ?_, ?_, by omega, by omega, g1, fun _ => rfl, Or.inl rfl, t7, a3⟩
    · rcases a3 with a3 | a3
      · subst a3
        simp (disch := first | omega | exact q_b_01 _) only [↓reduceIte, q_bk0, q_bk1, q_bk2, q_sg_b, q_b_0, q_b_n0, q_b_1, q_b_n1, q_b_T, q_b_F, q_sg_g, q_sg_sg, q_sg_xs, q_sg_id, q_gu_ne, q_gu_eq, q_g_fne, q_g_cpe, q_w_f, q_v_f, q_u_f, q_fn_f, q_cp_f, q_sg_pg, q_sg_hc, q_lt_t, q_lt_f, q_le_t, q_le_f, q_eq_t, q_eq_f, ne_eq, eq_self, Bool.false_eq_true, Bool.true_eq_false, not_true_eq_false, not_false_eq_true, true_and, and_true, false_and, and_false, true_or, or_true, false_or, or_false, if_true, if_false, Int.reduceAdd, Int.reduceMul, Int.reduceSub, Int.reduceNeg, u1, w1, R_12_0, R_12_6, R_12_9, R_12_13, R_12_14, R_12_15, R_12_19, C_12_3, R_151_0, R_151_4, R_151_8, R_151_16, R_151_24, C_151_1, C_151_21, q_lst, K_12_1]
        rfl
      · subst a3
        simp (disch := first | omega | exact q_b_01 _) only [↓reduceIte, q_bk0, q_bk1, q_bk2, q_sg_b, q_b_0, q_b_n0, q_b_1, q_b_n1, q_b_T, q_b_F, q_sg_g, q_sg_sg, q_sg_xs, q_sg_id, q_gu_ne, q_gu_eq, q_g_fne, q_g_cpe, q_w_f, q_v_f, q_u_f, q_fn_f, q_cp_f, q_sg_pg, q_sg_hc, q_lt_t, q_lt_f, q_le_t, q_le_f, q_eq_t, q_eq_f, ne_eq, eq_self, Bool.false_eq_true, Bool.true_eq_false, not_true_eq_false, not_false_eq_true, true_and, and_true, false_and, and_false, true_or, or_true, false_or, or_false, if_true, if_false, Int.reduceAdd, Int.reduceMul, Int.reduceSub, Int.reduceNeg, u1, w1, R_12_0, R_12_6, R_12_9, R_12_13, R_12_14, R_12_15, R_12_19, C_12_3, R_151_0, R_151_4, R_151_8, R_151_16, R_151_24, C_151_1, C_151_21, q_lst, K_12_1]
        rfl
    · rcases a3 with a3 | a3
      · subst a3
        simp (disch := first | omega | exact q_b_01 _) only [↓reduceIte, q_bk0, q_bk1, q_bk2, q_sg_b, q_b_0, q_b_n0, q_b_1, q_b_n1, q_b_T, q_b_F, q_sg_g, q_sg_sg, q_sg_xs, q_sg_id, q_gu_ne, q_gu_eq, q_g_fne, q_g_cpe, q_w_f, q_v_f, q_u_f, q_fn_f, q_cp_f, q_sg_pg, q_sg_hc, q_lt_t, q_lt_f, q_le_t, q_le_f, q_eq_t, q_eq_f, ne_eq, eq_self, Bool.false_eq_true, Bool.true_eq_false, not_true_eq_false, not_false_eq_true, true_and, and_true, false_and, and_false, true_or, or_true, false_or, or_false, if_true, if_false, Int.reduceAdd, Int.reduceMul, Int.reduceSub, Int.reduceNeg, v1, v2, g0, t3, t4, R_310_0, R_310_7, C_310_4, R_307_0, R_307_4, R_307_12, R_307_16, R_307_17, R_307_20, R_307_27, R_307_29, R_307_33, R_307_39, R_307_49, C_307_1, C_307_30, C_307_36]
      · subst a3
        simp (disch := first | omega | exact q_b_01 _) only [↓reduceIte, q_bk0, q_bk1, q_bk2, q_sg_b, q_b_0, q_b_n0, q_b_1, q_b_n1, q_b_T, q_b_F, q_sg_g, q_sg_sg, q_sg_xs, q_sg_id, q_gu_ne, q_gu_eq, q_g_fne, q_g_cpe, q_w_f, q_v_f, q_u_f, q_fn_f, q_cp_f, q_sg_pg, q_sg_hc, q_lt_t, q_lt_f, q_le_t, q_le_f, q_eq_t, q_eq_f, ne_eq, eq_self, Bool.false_eq_true, Bool.true_eq_false, not_true_eq_false, not_false_eq_true, true_and, and_true, false_and, and_false, true_or, or_true, false_or, or_false, if_true, if_false, Int.reduceAdd, Int.reduceMul, Int.reduceSub, Int.reduceNeg, v1, v2, g0, t3, t4, R_310_0, R_310_7, C_310_4, R_307_0, R_307_4, R_307_12, R_307_16, R_307_17, R_307_20, R_307_27, R_307_29, R_307_33, R_307_39, R_307_49, C_307_1, C_307_30, C_307_36]
/-- in their order, the pages that are written -/
theorem plan_wq {m : Int → Int} {T : Option Tr} {Lf : Int → Prop} {sc : Int} {u v : Nat → Int → Int32} (Tk : TkI m) (K0 : 0 ≤ cNo T + sc) (Kc : cNo T + sc ≤ cap m) (PC : PlanC m T Lf sc u) (PM : PlanM m T Lf sc v) {k : Int} (k0 : 0 ≤ k) (k1 : k ≤ cNo T + sc) : q_g u 259 k = wq m (cNo T + sc) k ∧ q_g v 306 k = wq m (cNo T + sc) k := by
  obtain ⟨l1, l2, l3, -⟩ := PC.2.2.2.1
  obtain ⟨p1, p2, p3, -⟩ := PM
  by_cases e : k = cNo T + sc
  · rw [e, wq_K]
    exact ⟨l3, p3⟩
  · obtain ⟨b1, b2, b3, b4⟩ := wq_tk Tk K0 Kc k0 (show k < cNo T + sc by omega)
    have a := l2 _ b1 b2 b3
    have b := p2 _ b1 b2 b3
    rw [b4] at a b
    exact ⟨a, b⟩
theorem op_would (B : Big b s) (hb : b < 2147483646) {k : Int} (v1' : -2147483648 ≤ k) (v2' : k < 2147483648) : Op0 (Big b) (fun h => EV (d + 40) 161 0 [.ref 1, .int (q_I (k)), .null] [] h) (fun h => EV (d + 40) 322 0 [.ref 285, .int (q_I (k))] [] h) L xs s O c := by
  have em : ∀ {u : Nat → Int → Int32}, PlnF s u → q_g (q_u u 285 0 0) 286 = q_g s 286 := fun {u} h => by
    rw [q_u_f (by omega)]
    exact funext fun z => by
      show (u 286 z).toInt = _
      rw [h 286 z (by omega)]
      rfl
  have fin : ∀ {u v : Nat → Int → Int32}, PlnF s u → MwF (q_u u 285 0 0) v → Big b v := fun {u v} h1 h2 => Big_sm B (fun k z hz => by
    unfold relz relc at hz
    rw [h2 k z (by omega) (by omega), q_u_n (by omega), h1 k z (by omega)])
  rcases planW (d := d + 23) (L := L) (xs := xs) (O := O) (c := c) B hb rfl with ⟨u, u1, u2, u3, u4⟩ | ⟨u, u1, u3, u4⟩ | ⟨T, Lf, sc, u, u0, u1, u2, u3, u4⟩
  · obtain ⟨v, v1, v2, v3, v4⟩ := u4 (q_u u 285 0 0) (d + 20) O c (em u3)
    refine ⟨if k = -1 then 0 else -1, u, v, ?_, ?_, fin u3 v4⟩
    · by_cases e : k = -1
      · rw [if_pos e]
        simp (disch := first | omega | exact q_b_01 _) only [↓reduceIte, q_bk0, q_bk1, q_bk2, q_sg_b, q_b_0, q_b_n0, q_b_1, q_b_n1, q_b_T, q_b_F, q_sg_g, q_sg_sg, q_sg_xs, q_sg_id, q_gu_ne, q_gu_eq, q_g_fne, q_g_cpe, q_w_f, q_v_f, q_u_f, q_fn_f, q_cp_f, q_sg_pg, q_sg_hc, q_lt_t, q_lt_f, q_le_t, q_le_f, q_eq_t, q_eq_f, ne_eq, eq_self, Bool.false_eq_true, Bool.true_eq_false, not_true_eq_false, not_false_eq_true, true_and, and_true, false_and, and_false, true_or, or_true, false_or, or_false, if_true, if_false, Int.reduceAdd, Int.reduceMul, Int.reduceSub, Int.reduceNeg, u1, e, R_161_0, R_161_4, R_161_10, R_161_12, R_161_16, R_161_21, R_161_25, R_161_33, C_161_1, C_161_30]
      · rw [if_neg e]
        by_cases e1 : k < 0
        · simp (disch := first | omega | exact q_b_01 _) only [↓reduceIte, q_bk0, q_bk1, q_bk2, q_sg_b, q_b_0, q_b_n0, q_b_1, q_b_n1, q_b_T, q_b_F, q_sg_g, q_sg_sg, q_sg_xs, q_sg_id, q_gu_ne, q_gu_eq, q_g_fne, q_g_cpe, q_w_f, q_v_f, q_u_f, q_fn_f, q_cp_f, q_sg_pg, q_sg_hc, q_lt_t, q_lt_f, q_le_t, q_le_f, q_eq_t, q_eq_f, ne_eq, eq_self, Bool.false_eq_true, Bool.true_eq_false, not_true_eq_false, not_false_eq_true, true_and, and_true, false_and, and_false, true_or, or_true, false_or, or_false, if_true, if_false, Int.reduceAdd, Int.reduceMul, Int.reduceSub, Int.reduceNeg, u1, R_161_0, R_161_4, R_161_10, R_161_12, R_161_16, R_161_21, R_161_25, R_161_33, C_161_1, C_161_30]
        · simp (disch := first | omega | exact q_b_01 _) only [↓reduceIte, q_bk0, q_bk1, q_bk2, q_sg_b, q_b_0, q_b_n0, q_b_1, q_b_n1, q_b_T, q_b_F, q_sg_g, q_sg_sg, q_sg_xs, q_sg_id, q_gu_ne, q_gu_eq, q_g_fne, q_g_cpe, q_w_f, q_v_f, q_u_f, q_fn_f, q_cp_f, q_sg_pg, q_sg_hc, q_lt_t, q_lt_f, q_le_t, q_le_f, q_eq_t, q_eq_f, ne_eq, eq_self, Bool.false_eq_true, Bool.true_eq_false, not_true_eq_false, not_false_eq_true, true_and, and_true, false_and, and_false, true_or, or_true, false_or, or_false, if_true, if_false, Int.reduceAdd, Int.reduceMul, Int.reduceSub, Int.reduceNeg, u1, R_161_0, R_161_4, R_161_10, R_161_12, R_161_16, R_161_21, R_161_25, R_161_33, C_161_1, C_161_30]
    · by_cases e : k = -1
      · rw [if_pos e]
        simp (disch := first | omega | exact q_b_01 _) only [↓reduceIte, q_bk0, q_bk1, q_bk2, q_sg_b, q_b_0, q_b_n0, q_b_1, q_b_n1, q_b_T, q_b_F, q_sg_g, q_sg_sg, q_sg_xs, q_sg_id, q_gu_ne, q_gu_eq, q_g_fne, q_g_cpe, q_w_f, q_v_f, q_u_f, q_fn_f, q_cp_f, q_sg_pg, q_sg_hc, q_lt_t, q_lt_f, q_le_t, q_le_f, q_eq_t, q_eq_f, ne_eq, eq_self, Bool.false_eq_true, Bool.true_eq_false, not_true_eq_false, not_false_eq_true, true_and, and_true, false_and, and_false, true_or, or_true, false_or, or_false, if_true, if_false, Int.reduceAdd, Int.reduceMul, Int.reduceSub, Int.reduceNeg, v1, v2, v3, e, R_322_0, R_322_5, R_322_9, R_322_16, R_322_18, R_322_23, R_322_28, R_322_39, R_322_42, R_322_48, R_322_51, R_322_52, C_322_6, C_322_36]
      · rw [if_neg e]
        have ii : ¬ (0 ≤ k ∧ k ≤ -1) := by omega
        simp (disch := first | omega | exact q_b_01 _) only [↓reduceIte, q_bk0, q_bk1, q_bk2, q_sg_b, q_b_0, q_b_n0, q_b_1, q_b_n1, q_b_T, q_b_F, q_sg_g, q_sg_sg, q_sg_xs, q_sg_id, q_gu_ne, q_gu_eq, q_g_fne, q_g_cpe, q_w_f, q_v_f, q_u_f, q_fn_f, q_cp_f, q_sg_pg, q_sg_hc, q_lt_t, q_lt_f, q_le_t, q_le_f, q_eq_t, q_eq_f, ne_eq, eq_self, Bool.false_eq_true, Bool.true_eq_false, not_true_eq_false, not_false_eq_true, true_and, and_true, false_and, and_false, true_or, or_true, false_or, or_false, if_true, if_false, Int.reduceAdd, Int.reduceMul, Int.reduceSub, Int.reduceNeg, v1, v2, v3, mm_isIn, ii, R_322_0, R_322_5, R_322_9, R_322_16, R_322_18, R_322_23, R_322_28, R_322_39, R_322_42, R_322_48, R_322_51, R_322_52, C_322_6, C_322_36]
  · obtain ⟨v, v1, v2, v3, v4⟩ := u4 (q_u u 285 0 0) (d + 20) O c (em u3)
    refine ⟨-1, u, v, ?_, ?_, fin u3 v4⟩
    · by_cases e : k = -1
      · simp (disch := first | omega | exact q_b_01 _) only [↓reduceIte, q_bk0, q_bk1, q_bk2, q_sg_b, q_b_0, q_b_n0, q_b_1, q_b_n1, q_b_T, q_b_F, q_sg_g, q_sg_sg, q_sg_xs, q_sg_id, q_gu_ne, q_gu_eq, q_g_fne, q_g_cpe, q_w_f, q_v_f, q_u_f, q_fn_f, q_cp_f, q_sg_pg, q_sg_hc, q_lt_t, q_lt_f, q_le_t, q_le_f, q_eq_t, q_eq_f, ne_eq, eq_self, Bool.false_eq_true, Bool.true_eq_false, not_true_eq_false, not_false_eq_true, true_and, and_true, false_and, and_false, true_or, or_true, false_or, or_false, if_true, if_false, Int.reduceAdd, Int.reduceMul, Int.reduceSub, Int.reduceNeg, u1, e, R_161_0, R_161_4, R_161_10, R_161_12, R_161_16, R_161_21, R_161_25, R_161_33, C_161_1, C_161_30]
      · by_cases e1 : k < 0
        · simp (disch := first | omega | exact q_b_01 _) only [↓reduceIte, q_bk0, q_bk1, q_bk2, q_sg_b, q_b_0, q_b_n0, q_b_1, q_b_n1, q_b_T, q_b_F, q_sg_g, q_sg_sg, q_sg_xs, q_sg_id, q_gu_ne, q_gu_eq, q_g_fne, q_g_cpe, q_w_f, q_v_f, q_u_f, q_fn_f, q_cp_f, q_sg_pg, q_sg_hc, q_lt_t, q_lt_f, q_le_t, q_le_f, q_eq_t, q_eq_f, ne_eq, eq_self, Bool.false_eq_true, Bool.true_eq_false, not_true_eq_false, not_false_eq_true, true_and, and_true, false_and, and_false, true_or, or_true, false_or, or_false, if_true, if_false, Int.reduceAdd, Int.reduceMul, Int.reduceSub, Int.reduceNeg, u1, R_161_0, R_161_4, R_161_10, R_161_12, R_161_16, R_161_21, R_161_25, R_161_33, C_161_1, C_161_30]
        · simp (disch := first | omega | exact q_b_01 _) only [↓reduceIte, q_bk0, q_bk1, q_bk2, q_sg_b, q_b_0, q_b_n0, q_b_1, q_b_n1, q_b_T, q_b_F, q_sg_g, q_sg_sg, q_sg_xs, q_sg_id, q_gu_ne, q_gu_eq, q_g_fne, q_g_cpe, q_w_f, q_v_f, q_u_f, q_fn_f, q_cp_f, q_sg_pg, q_sg_hc, q_lt_t, q_lt_f, q_le_t, q_le_f, q_eq_t, q_eq_f, ne_eq, eq_self, Bool.false_eq_true, Bool.true_eq_false, not_true_eq_false, not_false_eq_true, true_and, and_true, false_and, and_false, true_or, or_true, false_or, or_false, if_true, if_false, Int.reduceAdd, Int.reduceMul, Int.reduceSub, Int.reduceNeg, u1, R_161_0, R_161_4, R_161_10, R_161_12, R_161_16, R_161_21, R_161_25, R_161_33, C_161_1, C_161_30]
    · simp (disch := first | omega | exact q_b_01 _) only [↓reduceIte, q_bk0, q_bk1, q_bk2, q_sg_b, q_b_0, q_b_n0, q_b_1, q_b_n1, q_b_T, q_b_F, q_sg_g, q_sg_sg, q_sg_xs, q_sg_id, q_gu_ne, q_gu_eq, q_g_fne, q_g_cpe, q_w_f, q_v_f, q_u_f, q_fn_f, q_cp_f, q_sg_pg, q_sg_hc, q_lt_t, q_lt_f, q_le_t, q_le_f, q_eq_t, q_eq_f, ne_eq, eq_self, Bool.false_eq_true, Bool.true_eq_false, not_true_eq_false, not_false_eq_true, true_and, and_true, false_and, and_false, true_or, or_true, false_or, or_false, if_true, if_false, Int.reduceAdd, Int.reduceMul, Int.reduceSub, Int.reduceNeg, v1, v2, R_322_0, R_322_5, R_322_9, R_322_16, R_322_18, R_322_23, R_322_28, R_322_39, R_322_42, R_322_48, R_322_51, R_322_52, C_322_6, C_322_36]
  · obtain ⟨Lv, D, PT, LP, OL, DP, Sc, Kc, kn, -⟩ := id u0
    have s0 := Sc.1
    have s8 := Sc.2.1
    have Tk := inv_tk B.1.2.1 (by omega)
    have cp := TK_ct Tk (show 0 ≤ cNo T + sc by omega) Kc
    obtain ⟨v, v1, v2, v3, v4⟩ := u4 (q_u u 285 0 0) (d + 20) O c (em u3)
    have h10 := u2.2.2.2.1.1
    have h39 := v3.1
    by_cases e : k = -1
    · refine ⟨cNo T + sc + 1, u, v, ?_, ?_, fin u3 v4⟩
      · simp (disch := first | omega | exact q_b_01 _) only [↓reduceIte, q_bk0, q_bk1, q_bk2, q_sg_b, q_b_0, q_b_n0, q_b_1, q_b_n1, q_b_T, q_b_F, q_sg_g, q_sg_sg, q_sg_xs, q_sg_id, q_gu_ne, q_gu_eq, q_g_fne, q_g_cpe, q_w_f, q_v_f, q_u_f, q_fn_f, q_cp_f, q_sg_pg, q_sg_hc, q_lt_t, q_lt_f, q_le_t, q_le_f, q_eq_t, q_eq_f, ne_eq, eq_self, Bool.false_eq_true, Bool.true_eq_false, not_true_eq_false, not_false_eq_true, true_and, and_true, false_and, and_false, true_or, or_true, false_or, or_false, if_true, if_false, Int.reduceAdd, Int.reduceMul, Int.reduceSub, Int.reduceNeg, u1, e, R_161_0, R_161_4, R_161_10, R_161_12, R_161_16, R_161_21, R_161_25, R_161_33, C_161_1, C_161_30]
      · simp (disch := first | omega | exact q_b_01 _) only [↓reduceIte, q_bk0, q_bk1, q_bk2, q_sg_b, q_b_0, q_b_n0, q_b_1, q_b_n1, q_b_T, q_b_F, q_sg_g, q_sg_sg, q_sg_xs, q_sg_id, q_gu_ne, q_gu_eq, q_g_fne, q_g_cpe, q_w_f, q_v_f, q_u_f, q_fn_f, q_cp_f, q_sg_pg, q_sg_hc, q_lt_t, q_lt_f, q_le_t, q_le_f, q_eq_t, q_eq_f, ne_eq, eq_self, Bool.false_eq_true, Bool.true_eq_false, not_true_eq_false, not_false_eq_true, true_and, and_true, false_and, and_false, true_or, or_true, false_or, or_false, if_true, if_false, Int.reduceAdd, Int.reduceMul, Int.reduceSub, Int.reduceNeg, v1, v2, h39, e, R_322_0, R_322_5, R_322_9, R_322_16, R_322_18, R_322_23, R_322_28, R_322_39, R_322_42, R_322_48, R_322_51, R_322_52, C_322_6, C_322_36]
    · by_cases e1 : 0 ≤ k ∧ k ≤ cNo T + sc
      · obtain ⟨q1, q2⟩ := plan_wq Tk (show 0 ≤ cNo T + sc by omega) Kc u2 v3 e1.1 e1.2
        have pw := cc_pageOfWrite (d := d + 39) (L := L) (xs := xs) (s := u) (O := O) (c := c) e1.1 (by omega) (by omega) q1
        refine ⟨wq (q_g s 286) (cNo T + sc) k, u, v, ?_, ?_, fin u3 v4⟩
        · simp (disch := first | omega | exact q_b_01 _) only [↓reduceIte, q_bk0, q_bk1, q_bk2, q_sg_b, q_b_0, q_b_n0, q_b_1, q_b_n1, q_b_T, q_b_F, q_sg_g, q_sg_sg, q_sg_xs, q_sg_id, q_gu_ne, q_gu_eq, q_g_fne, q_g_cpe, q_w_f, q_v_f, q_u_f, q_fn_f, q_cp_f, q_sg_pg, q_sg_hc, q_lt_t, q_lt_f, q_le_t, q_le_f, q_eq_t, q_eq_f, ne_eq, eq_self, Bool.false_eq_true, Bool.true_eq_false, not_true_eq_false, not_false_eq_true, true_and, and_true, false_and, and_false, true_or, or_true, false_or, or_false, if_true, if_false, Int.reduceAdd, Int.reduceMul, Int.reduceSub, Int.reduceNeg, u1, pw, R_161_0, R_161_4, R_161_10, R_161_12, R_161_16, R_161_21, R_161_25, R_161_33, C_161_1, C_161_30]
        · have ii : (0 ≤ k ∧ k ≤ cNo T + sc + 1 - 1) := by omega
          simp (disch := first | omega | exact q_b_01 _) only [↓reduceIte, q_bk0, q_bk1, q_bk2, q_sg_b, q_b_0, q_b_n0, q_b_1, q_b_n1, q_b_T, q_b_F, q_sg_g, q_sg_sg, q_sg_xs, q_sg_id, q_gu_ne, q_gu_eq, q_g_fne, q_g_cpe, q_w_f, q_v_f, q_u_f, q_fn_f, q_cp_f, q_sg_pg, q_sg_hc, q_lt_t, q_lt_f, q_le_t, q_le_f, q_eq_t, q_eq_f, ne_eq, eq_self, Bool.false_eq_true, Bool.true_eq_false, not_true_eq_false, not_false_eq_true, true_and, and_true, false_and, and_false, true_or, or_true, false_or, or_false, if_true, if_false, Int.reduceAdd, Int.reduceMul, Int.reduceSub, Int.reduceNeg, v1, v2, h39, mm_isIn, ii, q2, R_322_0, R_322_5, R_322_9, R_322_16, R_322_18, R_322_23, R_322_28, R_322_39, R_322_42, R_322_48, R_322_51, R_322_52, C_322_6, C_322_36]
      · refine ⟨-1, u, v, ?_, ?_, fin u3 v4⟩
        · by_cases e2 : k < 0
          · simp (disch := first | omega | exact q_b_01 _) only [↓reduceIte, q_bk0, q_bk1, q_bk2, q_sg_b, q_b_0, q_b_n0, q_b_1, q_b_n1, q_b_T, q_b_F, q_sg_g, q_sg_sg, q_sg_xs, q_sg_id, q_gu_ne, q_gu_eq, q_g_fne, q_g_cpe, q_w_f, q_v_f, q_u_f, q_fn_f, q_cp_f, q_sg_pg, q_sg_hc, q_lt_t, q_lt_f, q_le_t, q_le_f, q_eq_t, q_eq_f, ne_eq, eq_self, Bool.false_eq_true, Bool.true_eq_false, not_true_eq_false, not_false_eq_true, true_and, and_true, false_and, and_false, true_or, or_true, false_or, or_false, if_true, if_false, Int.reduceAdd, Int.reduceMul, Int.reduceSub, Int.reduceNeg, u1, R_161_0, R_161_4, R_161_10, R_161_12, R_161_16, R_161_21, R_161_25, R_161_33, C_161_1, C_161_30]
          · simp (disch := first | omega | exact q_b_01 _) only [↓reduceIte, q_bk0, q_bk1, q_bk2, q_sg_b, q_b_0, q_b_n0, q_b_1, q_b_n1, q_b_T, q_b_F, q_sg_g, q_sg_sg, q_sg_xs, q_sg_id, q_gu_ne, q_gu_eq, q_g_fne, q_g_cpe, q_w_f, q_v_f, q_u_f, q_fn_f, q_cp_f, q_sg_pg, q_sg_hc, q_lt_t, q_lt_f, q_le_t, q_le_f, q_eq_t, q_eq_f, ne_eq, eq_self, Bool.false_eq_true, Bool.true_eq_false, not_true_eq_false, not_false_eq_true, true_and, and_true, false_and, and_false, true_or, or_true, false_or, or_false, if_true, if_false, Int.reduceAdd, Int.reduceMul, Int.reduceSub, Int.reduceNeg, u1, R_161_0, R_161_4, R_161_10, R_161_12, R_161_16, R_161_21, R_161_25, R_161_33, C_161_1, C_161_30]
        · have ii : ¬ (0 ≤ k ∧ k ≤ cNo T + sc + 1 - 1) := by omega
          simp (disch := first | omega | exact q_b_01 _) only [↓reduceIte, q_bk0, q_bk1, q_bk2, q_sg_b, q_b_0, q_b_n0, q_b_1, q_b_n1, q_b_T, q_b_F, q_sg_g, q_sg_sg, q_sg_xs, q_sg_id, q_gu_ne, q_gu_eq, q_g_fne, q_g_cpe, q_w_f, q_v_f, q_u_f, q_fn_f, q_cp_f, q_sg_pg, q_sg_hc, q_lt_t, q_lt_f, q_le_t, q_le_f, q_eq_t, q_eq_f, ne_eq, eq_self, Bool.false_eq_true, Bool.true_eq_false, not_true_eq_false, not_false_eq_true, true_and, and_true, false_and, and_false, true_or, or_true, false_or, or_false, if_true, if_false, Int.reduceAdd, Int.reduceMul, Int.reduceSub, Int.reduceNeg, v1, v2, h39, mm_isIn, ii, R_322_0, R_322_5, R_322_9, R_322_16, R_322_18, R_322_23, R_322_28, R_322_39, R_322_42, R_322_48, R_322_51, R_322_52, C_322_6, C_322_36]
end OPC
