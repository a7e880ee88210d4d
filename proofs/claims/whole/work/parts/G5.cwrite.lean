/-! A WRITE of the class -/
noncomputable def PgF (s : Nat → Int → Int32) (p : Int) (u : Nat → Int → Int32) : Prop := ∀ k z, ¬ ((9 ≤ k ∧ k ≤ 12) ∧ z = p) → ¬ ((k = 13 ∨ k = 14) ∧ p * 6 ≤ z ∧ z < p * 6 + 6) → ¬ (k = 15 ∧ p * 4 ≤ z ∧ z < p * 4 + 4) → u k z = s k z
noncomputable def PgW (s : Nat → Int → Int32) (p K n nx : Int) (A V : Int → Int) (u : Nat → Int → Int32) : Prop :=
  q_g u 9 p = K ∧ q_g u 10 p = n ∧ q_g u 12 p = nx ∧ q_g u 11 p = mn 9999 (q_g s 11 p + 1) ∧ (∀ e, 0 ≤ e → e < n → q_g u 13 (p * 6 + e) = A e ∧ q_g u 14 (p * 6 + e) = V e) ∧ PgF s p u
section CWR
variable {d L : Nat} {xs : Nat → Int32} {s : Nat → Int → Int32} {O : Nat → Int64} {c : Bool × Nat × Nat} {p : Int}
theorem cc_wipe {kind : Int} (p0 : 0 ≤ p) (p1 : p < 48) (w0 : 0 ≤ q_g s 11 p) (w1 : q_g s 11 p ≤ 9999) : EV (d + 1) 39 0 [.ref 8, .int (q_I (p)), .int (q_I (kind))] [] (q_h L xs s O c) = some (.inl none, q_h L xs (q_u (q_u (q_u (q_u s 9 p kind) 10 p 0) 12 p (-1)) 11 p (mn 9999 (q_g s 11 p + 1))) O c) := by
  have ip := cc_isPage (d := d) (L := L) (xs := xs) (s := s) (O := O) (c := c) (p := p)
  rw [q_bt (by rw [q_sg_id (by omega) (by omega)]; omega)] at ip
  generalize hM : q_u (q_u (q_u s 9 p kind) 10 p 0) 12 p (-1) = M
  have g11 : q_g M 11 p = q_g s 11 p := by rw [← hM, q_gu_ne (by omega), q_gu_ne (by omega), q_gu_ne (by omega)]
  have mi := jj_min (d := d) (L := L) (xs := xs) (s := M) (O := O) (c := c) (x := 9999) (y := q_g s 11 p + 1)
  have e : (if q_sg (q_g s 11 p + 1) < q_sg 9999 then q_g s 11 p + 1 else 9999) = mn 9999 (q_g s 11 p + 1) := by
    unfold mn
    rw [q_sg_id (x := q_g s 11 p + 1) (by omega) (by omega), q_sg_id (x := 9999) (by omega) (by omega)]
    repeat' split
    all_goals omega
  rw [e] at mi
  simp (disch := first | omega | exact q_b_01 _) only [↓reduceIte, q_bk0, q_bk1, q_bk2, q_sg_b, q_b_0, q_b_n0, q_b_1, q_b_n1, q_b_T, q_b_F, q_sg_g, q_sg_sg, q_sg_xs, q_sg_id, q_gu_ne, q_gu_eq, q_g_fne, q_g_cpe, q_w_f, q_v_f, q_u_f, q_fn_f, q_cp_f, q_sg_pg, q_sg_hc, q_lt_t, q_lt_f, q_le_t, q_le_f, q_eq_t, q_eq_f, ne_eq, eq_self, Bool.false_eq_true, Bool.true_eq_false, not_true_eq_false, not_false_eq_true, true_and, and_true, false_and, and_false, true_or, or_true, false_or, or_false, if_true, if_false, Int.reduceAdd, Int.reduceMul, Int.reduceSub, Int.reduceNeg, ip, hM, g11, mi, R_39_0, R_39_4, R_39_7, R_39_14, R_39_21, R_39_28, R_39_42, R_39_47, R_39_48, C_39_1, C_39_44]
theorem cc_appD {a b n : Int} (p0 : 0 ≤ p) (p1 : p < 48) (hn : q_g s 10 p = n) (n0 : 0 ≤ n) (n1 : n < 6) : EV (d + 1) 40 0 [.ref 8, .int (q_I (p)), .int (q_I (a)), .int (q_I (b)), .null] [] (q_h L xs s O c) = some (.inl none, q_h L xs (q_u (q_u (q_u s 13 (p * 6 + n) a) 14 (p * 6 + n) b) 10 p (n + 1)) O c) := by
  have ip := cc_isPage (d := d) (L := L) (xs := xs) (s := s) (O := O) (c := c) (p := p)
  rw [q_bt (by rw [q_sg_id (by omega) (by omega)]; omega)] at ip
  have g2 : q_g (q_u (q_u s 13 (p * 6 + n) a) 14 (p * 6 + n) b) 10 p = n := by rw [q_gu_ne (by omega), q_gu_ne (by omega), hn]
  simp (disch := first | omega | exact q_b_01 _) only [↓reduceIte, q_bk0, q_bk1, q_bk2, q_sg_b, q_b_0, q_b_n0, q_b_1, q_b_n1, q_b_T, q_b_F, q_sg_g, q_sg_sg, q_sg_xs, q_sg_id, q_gu_ne, q_gu_eq, q_g_fne, q_g_cpe, q_w_f, q_v_f, q_u_f, q_fn_f, q_cp_f, q_sg_pg, q_sg_hc, q_lt_t, q_lt_f, q_le_t, q_le_f, q_eq_t, q_eq_f, ne_eq, eq_self, Bool.false_eq_true, Bool.true_eq_false, not_true_eq_false, not_false_eq_true, true_and, and_true, false_and, and_false, true_or, or_true, false_or, or_false, if_true, if_false, Int.reduceAdd, Int.reduceMul, Int.reduceSub, Int.reduceNeg, ip, hn, g2, R_40_0, R_40_4, R_40_7, R_40_13, R_40_16, R_40_22, R_40_27, R_40_37, R_40_48, R_40_56, R_40_63, R_40_66, C_40_1]
theorem cc_tellHead {h w v : Int} (h0 : 0 ≤ h) (h1 : h ≤ 1) (w0 : 0 ≤ w) (w1 : w < 4) : EV (d) 41 0 [.ref 8, .int (q_I (h)), .int (q_I (w)), .int (q_I (v)), .null] [] (q_h L xs s O c) = some (.inl none, q_h L xs (q_u s 15 (h * 4 + w) v) O c) := by
  simp (disch := first | omega | exact q_b_01 _) only [↓reduceIte, q_bk0, q_bk1, q_bk2, q_sg_b, q_b_0, q_b_n0, q_b_1, q_b_n1, q_b_T, q_b_F, q_sg_g, q_sg_sg, q_sg_xs, q_sg_id, q_gu_ne, q_gu_eq, q_g_fne, q_g_cpe, q_w_f, q_v_f, q_u_f, q_fn_f, q_cp_f, q_sg_pg, q_sg_hc, q_lt_t, q_lt_f, q_le_t, q_le_f, q_eq_t, q_eq_f, ne_eq, eq_self, Bool.false_eq_true, Bool.true_eq_false, not_true_eq_false, not_false_eq_true, true_and, and_true, false_and, and_false, true_or, or_true, false_or, or_false, if_true, if_false, Int.reduceAdd, Int.reduceMul, Int.reduceSub, Int.reduceNeg, R_41_0, R_41_12, R_41_19, R_41_27]
theorem cc_pageFor {y : Int} (y0 : 0 ≤ y) (y1 : y < 176) : EV (d) 99 0 [.ref 241, .int (q_I (y))] [] (q_h L xs s O c) = some (.inl (some (.int (q_I (q_g s 255 y)))), q_h L xs (s) O c) := by
  simp (disch := first | omega | exact q_b_01 _) only [↓reduceIte, q_bk0, q_bk1, q_bk2, q_sg_b, q_b_0, q_b_n0, q_b_1, q_b_n1, q_b_T, q_b_F, q_sg_g, q_sg_sg, q_sg_xs, q_sg_id, q_gu_ne, q_gu_eq, q_g_fne, q_g_cpe, q_w_f, q_v_f, q_u_f, q_fn_f, q_cp_f, q_sg_pg, q_sg_hc, q_lt_t, q_lt_f, q_le_t, q_le_f, q_eq_t, q_eq_f, ne_eq, eq_self, Bool.false_eq_true, Bool.true_eq_false, not_true_eq_false, not_false_eq_true, true_and, and_true, false_and, and_false, true_or, or_true, false_or, or_false, if_true, if_false, Int.reduceAdd, Int.reduceMul, Int.reduceSub, Int.reduceNeg, R_99_0, R_99_4, R_99_11, R_99_15, R_99_21]
theorem cc_writeNode {y n K : Int} {V : Int → Int} (p0 : 0 ≤ p) (p1 : p < 48) (w0 : 0 ≤ q_g s 11 p) (w1 : q_g s 11 p ≤ 9999) (y0 : 0 ≤ y) (y1 : y < 176) (hK : q_g s 243 y = K) (hR : q_g s 244 y = n) (n0 : 0 ≤ n) (n6 : n ≤ 6) (hV : ∀ e, 0 ≤ e → e < n → (K = 2 → 0 ≤ q_g s 246 (y * 6 + e) ∧ q_g s 246 (y * 6 + e) < 176 ∧ q_g s 255 (q_g s 246 (y * 6 + e)) = V e) ∧ (K ≠ 2 → q_g s 246 (y * 6 + e) = V e)) : ∃ u, EV (d + 3) 102 0 [.ref 241, .ref 8, .int (q_I (p)), .int (q_I (y)), .null, .null, .null] [] (q_h L xs s O c) = some (.inl none, q_h L xs (u) O c) ∧ PgW s p K n (-1) (fun e => q_g s 245 (y * 6 + e)) V u := by
  have wi := cc_wipe (d := d + 1) (L := L) (xs := xs) (s := s) (O := O) (c := c) (kind := K) p0 p1 w0 w1
  have kr := q_g_rg s 243 y
  rw [hK] at kr
  have mr : 0 ≤ mn 9999 (q_g s 11 p + 1) ∧ mn 9999 (q_g s 11 p + 1) ≤ 9999 := by
    unfold mn
    split <;> omega
  generalize hM : q_u (q_u (q_u (q_u s 9 p K) 10 p 0) 12 p (-1)) 11 p (mn 9999 (q_g s 11 p + 1)) = M at wi
  have M43 : q_g M 243 y = K := by rw [← hM, q_gu_ne (by omega), q_gu_ne (by omega), q_gu_ne (by omega), q_gu_ne (by omega), hK]
  have MF : PgF s p M := fun k z a1 a2 a3 => by rw [← hM, q_u_n (by omega), q_u_n (by omega), q_u_n (by omega), q_u_n (by omega)]
  have P0 : PgW s p K 0 (-1) (fun e => q_g s 245 (y * 6 + e)) V M := by
    refine ⟨?_, ?_, ?_, ?_, fun e e0 e1 => by omega, MF⟩
    · rw [← hM, q_gu_ne (by omega), q_gu_ne (by omega), q_gu_ne (by omega), q_gu_eq rfl, q_sg_id kr.1 kr.2]
    · rw [← hM, q_gu_ne (by omega), q_gu_ne (by omega), q_gu_eq rfl]
      rfl
    · rw [← hM, q_gu_ne (by omega), q_gu_eq rfl]
      rfl
    · rw [← hM, q_gu_eq rfl, q_sg_id (by omega) (by omega)]
  obtain ⟨t, t1, t2⟩ := q_for (fun e (t : (Nat → Int → Int32) × Value) => EV (d + 3) 102 37 [.ref 241, .ref 8, .int (q_I (p)), .int (q_I (y)), .int (q_I (q_b (K = 2))), .int (q_I (e)), t.2] [] (q_h L xs (t.1) O c)) (fun e t => PgW s p K e (-1) (fun e => q_g s 245 (y * 6 + e)) V t.1) (lo := 0) (hi := n) n0 (fun e t e0 e1 P => by
      obtain ⟨P1, P2, P3, P4, P5, P6⟩ := P
      have g : ∀ k z, 243 ≤ k → q_g t.1 k z = q_g s k z := fun k z hk => by
        show (t.1 k z).toInt = _
        rw [P6 k z (by omega) (by omega) (by omega)]
        rfl
      have g44 : q_g t.1 244 y = n := by rw [g 244 y (by omega), hR]
      have g45 := g 245 (y * 6 + e) (by omega)
      have g46 := g 246 (y * 6 + e) (by omega)
      have ar := q_g_rg s 245 (y * 6 + e)
      have br := q_g_rg s 246 (y * 6 + e)
      obtain ⟨v1, v2⟩ := hV e e0 e1
      have vr : -2147483648 ≤ V e ∧ V e < 2147483648 := by
        by_cases k2 : K = 2
        · rw [← (v1 k2).2.2]
          exact q_g_rg s 255 _
        · rw [← v2 k2]
          exact br
      have ap := cc_appD (d := d + 1) (L := L) (xs := xs) (s := t.1) (O := O) (c := c) (a := q_g s 245 (y * 6 + e)) (b := V e) p0 p1 P2 e0 (by omega)
      refine ⟨(q_u (q_u (q_u t.1 13 (p * 6 + e) (q_g s 245 (y * 6 + e))) 14 (p * 6 + e) (V e)) 10 p (e + 1), .int (q_I (q_g s 246 (y * 6 + e)))), ?_, ?_⟩
      · show EV (d + 3) 102 37 [.ref 241, .ref 8, .int (q_I (p)), .int (q_I (y)), .int (q_I (q_b (K = 2))), .int (q_I (e)), t.2] [] (q_h L xs (t.1) O c) = EV (d + 3) 102 37 [.ref 241, .ref 8, .int (q_I (p)), .int (q_I (y)), .int (q_I (q_b (K = 2))), .int (q_I (e + 1)), .int (q_I (q_g s 246 (y * 6 + e)))] [] (q_h L xs (q_u (q_u (q_u t.1 13 (p * 6 + e) (q_g s 245 (y * 6 + e))) 14 (p * 6 + e) (V e)) 10 p (e + 1)) O c)
        rw [R_102_37 (x5 := e) (h0 := by omega) (h1 := by omega)]
        by_cases k2 : K = 2
        · obtain ⟨b0, b1, b2⟩ := v1 k2
          have pf := cc_pageFor (d := d + 2) (L := L) (xs := xs) (s := t.1) (O := O) (c := c) b0 b1
          rw [g 255 _ (by omega), b2] at pf
          rw [q_bt k2]
          simp (disch := first | omega | exact q_b_01 _) only [↓reduceIte, q_bk0, q_bk1, q_bk2, q_sg_b, q_b_0, q_b_n0, q_b_1, q_b_n1, q_b_T, q_b_F, q_sg_g, q_sg_sg, q_sg_xs, q_sg_id, q_gu_ne, q_gu_eq, q_g_fne, q_g_cpe, q_w_f, q_v_f, q_u_f, q_fn_f, q_cp_f, q_sg_pg, q_sg_hc, q_lt_t, q_lt_f, q_le_t, q_le_f, q_eq_t, q_eq_f, ne_eq, eq_self, Bool.false_eq_true, Bool.true_eq_false, not_true_eq_false, not_false_eq_true, true_and, and_true, false_and, and_false, true_or, or_true, false_or, or_false, if_true, if_false, Int.reduceAdd, Int.reduceMul, Int.reduceSub, Int.reduceNeg, g44, g45, g46, pf, ap, R_102_0, R_102_14, R_102_23, R_102_27, R_102_31, R_102_32, R_102_48, R_102_51, R_102_58, R_102_73, R_102_92, R_102_97, R_102_103, R_102_106, R_102_111, R_102_117, C_102_11, C_102_100, C_102_108]
        · have b2 := v2 k2
          rw [q_bf k2]
          rw [← b2] at ap ⊢
          simp (disch := first | omega | exact q_b_01 _) only [↓reduceIte, q_bk0, q_bk1, q_bk2, q_sg_b, q_b_0, q_b_n0, q_b_1, q_b_n1, q_b_T, q_b_F, q_sg_g, q_sg_sg, q_sg_xs, q_sg_id, q_gu_ne, q_gu_eq, q_g_fne, q_g_cpe, q_w_f, q_v_f, q_u_f, q_fn_f, q_cp_f, q_sg_pg, q_sg_hc, q_lt_t, q_lt_f, q_le_t, q_le_f, q_eq_t, q_eq_f, ne_eq, eq_self, Bool.false_eq_true, Bool.true_eq_false, not_true_eq_false, not_false_eq_true, true_and, and_true, false_and, and_false, true_or, or_true, false_or, or_false, if_true, if_false, Int.reduceAdd, Int.reduceMul, Int.reduceSub, Int.reduceNeg, g44, g45, g46, ap, R_102_0, R_102_14, R_102_23, R_102_27, R_102_31, R_102_32, R_102_48, R_102_51, R_102_58, R_102_73, R_102_92, R_102_97, R_102_103, R_102_106, R_102_111, R_102_117, C_102_11, C_102_100, C_102_108]
      · dsimp only
        refine ⟨?_, ?_, ?_, ?_, fun i i0 i1 => ?_, fun k z a1 a2 a3 => ?_⟩
        · rw [q_gu_ne (by omega), q_gu_ne (by omega), q_gu_ne (by omega)]
          exact P1
        · rw [q_gu_eq rfl, q_sg_id (by omega) (by omega)]
        · rw [q_gu_ne (by omega), q_gu_ne (by omega), q_gu_ne (by omega)]
          exact P3
        · rw [q_gu_ne (by omega), q_gu_ne (by omega), q_gu_ne (by omega)]
          exact P4
        · by_cases ei : i = e
          · rw [ei]
            exact ⟨by rw [q_gu_ne (by omega), q_gu_ne (by omega), q_gu_eq rfl, q_sg_id ar.1 ar.2], by rw [q_gu_ne (by omega), q_gu_eq rfl, q_sg_id vr.1 vr.2]⟩
          · obtain ⟨y1, y2⟩ := P5 i i0 (by omega)
            exact ⟨by rw [q_gu_ne (by omega), q_gu_ne (by omega), q_gu_ne (by omega)]; exact y1, by rw [q_gu_ne (by omega), q_gu_ne (by omega), q_gu_ne (by omega)]; exact y2⟩
        · rw [q_u_n (by omega), q_u_n (by omega), q_u_n (by omega), P6 k z a1 a2 a3]) (t := (M, .null)) P0
  refine ⟨t.1, ?_, t2⟩
  have g44 : q_g t.1 244 y = n := by
    show (t.1 244 y).toInt = n
    rw [t2.2.2.2.2.2 244 y (by omega) (by omega) (by omega)]
    exact hR
  have pre : EV (d + 3) 102 0 [.ref 241, .ref 8, .int (q_I (p)), .int (q_I (y)), .null, .null, .null] [] (q_h L xs s O c) = EV (d + 3) 102 37 [.ref 241, .ref 8, .int (q_I (p)), .int (q_I (y)), .int (q_I (q_b (K = 2))), .int (q_I (0)), .null] [] (q_h L xs (M) O c) := by
    by_cases k2 : K = 2
    · rw [q_bt k2]
      subst k2
      simp (disch := first | omega | exact q_b_01 _) only [↓reduceIte, q_bk0, q_bk1, q_bk2, q_sg_b, q_b_0, q_b_n0, q_b_1, q_b_n1, q_b_T, q_b_F, q_sg_g, q_sg_sg, q_sg_xs, q_sg_id, q_gu_ne, q_gu_eq, q_g_fne, q_g_cpe, q_w_f, q_v_f, q_u_f, q_fn_f, q_cp_f, q_sg_pg, q_sg_hc, q_lt_t, q_lt_f, q_le_t, q_le_f, q_eq_t, q_eq_f, ne_eq, eq_self, Bool.false_eq_true, Bool.true_eq_false, not_true_eq_false, not_false_eq_true, true_and, and_true, false_and, and_false, true_or, or_true, false_or, or_false, if_true, if_false, Int.reduceAdd, Int.reduceMul, Int.reduceSub, Int.reduceNeg, hK, wi, M43, R_102_0, R_102_14, R_102_23, R_102_27, R_102_31, R_102_32, R_102_48, R_102_51, R_102_58, R_102_73, R_102_92, R_102_97, R_102_103, R_102_106, R_102_111, R_102_117, C_102_11, C_102_100, C_102_108]
    · rw [q_bf k2]
      have k2' : ¬ q_g M 243 y = 2 := by rw [M43]; exact k2
      simp (disch := first | omega | exact q_b_01 _) only [↓reduceIte, q_bk0, q_bk1, q_bk2, q_sg_b, q_b_0, q_b_n0, q_b_1, q_b_n1, q_b_T, q_b_F, q_sg_g, q_sg_sg, q_sg_xs, q_sg_id, q_gu_ne, q_gu_eq, q_g_fne, q_g_cpe, q_w_f, q_v_f, q_u_f, q_fn_f, q_cp_f, q_sg_pg, q_sg_hc, q_lt_t, q_lt_f, q_le_t, q_le_f, q_eq_t, q_eq_f, ne_eq, eq_self, Bool.false_eq_true, Bool.true_eq_false, not_true_eq_false, not_false_eq_true, true_and, and_true, false_and, and_false, true_or, or_true, false_or, or_false, if_true, if_false, Int.reduceAdd, Int.reduceMul, Int.reduceSub, Int.reduceNeg, hK, wi, k2', R_102_0, R_102_14, R_102_23, R_102_27, R_102_31, R_102_32, R_102_48, R_102_51, R_102_58, R_102_73, R_102_92, R_102_97, R_102_103, R_102_106, R_102_111, R_102_117, C_102_11, C_102_100, C_102_108]
  rw [pre]
  refine t1.trans ?_
  show EV (d + 3) 102 37 [.ref 241, .ref 8, .int (q_I (p)), .int (q_I (y)), .int (q_I (q_b (K = 2))), .int (q_I (n)), t.2] [] (q_h L xs (t.1) O c) = _
  rw [R_102_37 (h0 := by omega) (h1 := by omega)]
  simp (disch := first | omega | exact q_b_01 _) only [↓reduceIte, q_bk0, q_bk1, q_bk2, q_sg_b, q_b_0, q_b_n0, q_b_1, q_b_n1, q_b_T, q_b_F, q_sg_g, q_sg_sg, q_sg_xs, q_sg_id, q_gu_ne, q_gu_eq, q_g_fne, q_g_cpe, q_w_f, q_v_f, q_u_f, q_fn_f, q_cp_f, q_sg_pg, q_sg_hc, q_lt_t, q_lt_f, q_le_t, q_le_f, q_eq_t, q_eq_f, ne_eq, eq_self, Bool.false_eq_true, Bool.true_eq_false, not_true_eq_false, not_false_eq_true, true_and, and_true, false_and, and_false, true_or, or_true, false_or, or_false, if_true, if_false, Int.reduceAdd, Int.reduceMul, Int.reduceSub, Int.reduceNeg, g44, R_102_0, R_102_14, R_102_23, R_102_27, R_102_31, R_102_32, R_102_48, R_102_51, R_102_58, R_102_73, R_102_92, R_102_97, R_102_103, R_102_106, R_102_111, R_102_117, C_102_11, C_102_100, C_102_108]
end CWR
