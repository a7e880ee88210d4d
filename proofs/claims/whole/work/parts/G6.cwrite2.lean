/-! A WRITE of the class: slips, heads; the state tells it -/
section CW2
variable {d L : Nat} {xs : Nat → Int32} {s : Nat → Int → Int32} {O : Nat → Int64} {c : Bool × Nat × Nat} {p : Int}
theorem cc_writeSlip {i RC sc : Int} (p0 : 0 ≤ p) (p1 : p < 48) (w0 : 0 ≤ q_g s 11 p) (w1 : q_g s 11 p ≤ 9999) (i0 : 0 ≤ i) (i9 : i ≤ 9) (hRC : q_g s 241 8 = RC) (r0 : 0 ≤ RC) (r1 : RC ≤ 48) (hsc : q_g s 241 5 = sc) (s0 : 0 ≤ sc) (s9 : sc ≤ 9) : ∃ u, EV (d + 3) 101 0 [.ref 241, .ref 8, .int (q_I (p)), .int (q_I (i)), .null] [] (q_h L xs s O c) = some (.inl none, q_h L xs (u) O c) ∧ PgW s p 3 (rws RC i 6) (if i + 1 < sc then q_g s 256 (i + 1) else -1) (fun e => q_g s 257 (6 * i + e)) (fun e => q_g s 258 (6 * i + e)) u := by
  have wi := cc_wipe (d := d + 1) (L := L) (xs := xs) (s := s) (O := O) (c := c) (kind := 3) p0 p1 w0 w1
  have mr : 0 ≤ mn 9999 (q_g s 11 p + 1) ∧ mn 9999 (q_g s 11 p + 1) ≤ 9999 := by
    unfold mn
    split <;> omega
  generalize hn : rws RC i 6 = n
  have nr : 0 ≤ n ∧ n ≤ 6 ∧ (0 < n → 6 * i + n ≤ RC) ∧ (RC ≤ 6 * i + n ∨ n = 6) := by
    rw [← hn]
    unfold rws
    repeat' split
    all_goals omega
  generalize hM : q_u (q_u (q_u (q_u s 9 p 3) 10 p 0) 12 p (-1)) 11 p (mn 9999 (q_g s 11 p + 1)) = M at wi
  have MF : PgF s p M := fun k z a1 a2 a3 => by rw [← hM, q_u_n (by omega), q_u_n (by omega), q_u_n (by omega), q_u_n (by omega)]
  have P0 : PgW s p 3 0 (-1) (fun e => q_g s 257 (6 * i + e)) (fun e => q_g s 258 (6 * i + e)) M := by
    refine ⟨?_, ?_, ?_, ?_, fun e e0 e1 => by omega, MF⟩
    · rw [← hM, q_gu_ne (by omega), q_gu_ne (by omega), q_gu_ne (by omega), q_gu_eq rfl]
      rfl
    · rw [← hM, q_gu_ne (by omega), q_gu_ne (by omega), q_gu_eq rfl]
      rfl
    · rw [← hM, q_gu_ne (by omega), q_gu_eq rfl]
      rfl
    · rw [← hM, q_gu_eq rfl, q_sg_id (by omega) (by omega)]
  obtain ⟨t, t1, t2⟩ := q_for (fun e t => EV (d + 3) 101 12 [.ref 241, .ref 8, .int (q_I (p)), .int (q_I (i)), .int (q_I (6 * i + e))] [] (q_h L xs (t) O c)) (fun e t => PgW s p 3 e (-1) (fun e => q_g s 257 (6 * i + e)) (fun e => q_g s 258 (6 * i + e)) t) (lo := 0) (hi := n) nr.1 (fun e t e0 e1 P => by
      obtain ⟨P1, P2, P3, P4, P5, P6⟩ := P
      have g : ∀ k z, 241 ≤ k → q_g t k z = q_g s k z := fun k z hk => by
        show (t k z).toInt = _
        rw [P6 k z (by omega) (by omega) (by omega)]
        rfl
      have g8 : q_g t 241 8 = RC := by rw [g 241 8 (by omega), hRC]
      have g57 := g 257 (6 * i + e) (by omega)
      have g58 := g 258 (6 * i + e) (by omega)
      have ar := q_g_rg s 257 (6 * i + e)
      have br := q_g_rg s 258 (6 * i + e)
      have n4 := nr.2.2.1 (by omega)
      have ap := cc_appD (d := d + 1) (L := L) (xs := xs) (s := t) (O := O) (c := c) (a := q_g s 257 (6 * i + e)) (b := q_g s 258 (6 * i + e)) p0 p1 P2 e0 (by omega)
      refine ⟨q_u (q_u (q_u t 13 (p * 6 + e) (q_g s 257 (6 * i + e))) 14 (p * 6 + e) (q_g s 258 (6 * i + e))) 10 p (e + 1), ?_, ?_⟩
      · show EV (d + 3) 101 12 [.ref 241, .ref 8, .int (q_I (p)), .int (q_I (i)), .int (q_I (6 * i + e))] [] (q_h L xs (t) O c) = EV (d + 3) 101 12 [.ref 241, .ref 8, .int (q_I (p)), .int (q_I (i)), .int (q_I (6 * i + (e + 1)))] [] (q_h L xs (q_u (q_u (q_u t 13 (p * 6 + e) (q_g s 257 (6 * i + e))) 14 (p * 6 + e) (q_g s 258 (6 * i + e))) 10 p (e + 1)) O c)
        rw [R_101_12 (x4 := 6 * i + e)]
        simp (disch := first | omega | exact q_b_01 _) only [↓reduceIte, q_bk0, q_bk1, q_bk2, q_sg_b, q_b_0, q_b_n0, q_b_1, q_b_n1, q_b_T, q_b_F, q_sg_g, q_sg_sg, q_sg_xs, q_sg_id, q_gu_ne, q_gu_eq, q_g_fne, q_g_cpe, q_w_f, q_v_f, q_u_f, q_fn_f, q_cp_f, q_sg_pg, q_sg_hc, q_lt_t, q_lt_f, q_le_t, q_le_f, q_eq_t, q_eq_f, ne_eq, eq_self, Bool.false_eq_true, Bool.true_eq_false, not_true_eq_false, not_false_eq_true, true_and, and_true, false_and, and_false, true_or, or_true, false_or, or_false, if_true, if_false, Int.reduceAdd, Int.reduceMul, Int.reduceSub, Int.reduceNeg, g8, g57, g58, ap, R_101_0, R_101_6, R_101_21, R_101_32, R_101_41, R_101_51, R_101_57, R_101_72, R_101_80, R_101_83, R_101_84, R_101_85, C_101_3, C_101_48]
        rw [show 6 * i + e + 1 = 6 * i + (e + 1) by omega]
      · refine ⟨?_, ?_, ?_, ?_, fun j j0 j1 => ?_, fun k z a1 a2 a3 => ?_⟩
        · rw [q_gu_ne (by omega), q_gu_ne (by omega), q_gu_ne (by omega)]
          exact P1
        · rw [q_gu_eq rfl, q_sg_id (by omega) (by omega)]
        · rw [q_gu_ne (by omega), q_gu_ne (by omega), q_gu_ne (by omega)]
          exact P3
        · rw [q_gu_ne (by omega), q_gu_ne (by omega), q_gu_ne (by omega)]
          exact P4
        · by_cases ei : j = e
          · rw [ei]
            exact ⟨by rw [q_gu_ne (by omega), q_gu_ne (by omega), q_gu_eq rfl, q_sg_id ar.1 ar.2], by rw [q_gu_ne (by omega), q_gu_eq rfl, q_sg_id br.1 br.2]⟩
          · obtain ⟨y1, y2⟩ := P5 j j0 (by omega)
            exact ⟨by rw [q_gu_ne (by omega), q_gu_ne (by omega), q_gu_ne (by omega)]; exact y1, by rw [q_gu_ne (by omega), q_gu_ne (by omega), q_gu_ne (by omega)]; exact y2⟩
        · rw [q_u_n (by omega), q_u_n (by omega), q_u_n (by omega), P6 k z a1 a2 a3]) (t := M) P0
  obtain ⟨P1, P2, P3, P4, P5, P6⟩ := t2
  have g : ∀ k z, 241 ≤ k → q_g t k z = q_g s k z := fun k z hk => by
    show (t k z).toInt = _
    rw [P6 k z (by omega) (by omega) (by omega)]
    rfl
  have g8 : q_g t 241 8 = RC := by rw [g 241 8 (by omega), hRC]
  have g5 : q_g t 241 5 = sc := by rw [g 241 5 (by omega), hsc]
  have g56 := g 256 (i + 1) (by omega)
  have nxr := q_g_rg s 256 (i + 1)
  generalize hx : (if i + 1 < sc then q_g s 256 (i + 1) else -1) = nx
  have xr : -2147483648 ≤ nx ∧ nx < 2147483648 := by
    rw [← hx]
    split <;> omega
  refine ⟨q_u t 12 p nx, ?_, ?_, ?_, ?_, ?_, fun j j0 j1 => ?_, fun k z a1 a2 a3 => by rw [q_u_n (by omega), P6 k z a1 a2 a3]⟩
  · have pre : EV (d + 3) 101 0 [.ref 241, .ref 8, .int (q_I (p)), .int (q_I (i)), .null] [] (q_h L xs s O c) = EV (d + 3) 101 12 [.ref 241, .ref 8, .int (q_I (p)), .int (q_I (i)), .int (q_I (6 * i + 0))] [] (q_h L xs (M) O c) := by
      simp (disch := first | omega | exact q_b_01 _) only [↓reduceIte, q_bk0, q_bk1, q_bk2, q_sg_b, q_b_0, q_b_n0, q_b_1, q_b_n1, q_b_T, q_b_F, q_sg_g, q_sg_sg, q_sg_xs, q_sg_id, q_gu_ne, q_gu_eq, q_g_fne, q_g_cpe, q_w_f, q_v_f, q_u_f, q_fn_f, q_cp_f, q_sg_pg, q_sg_hc, q_lt_t, q_lt_f, q_le_t, q_le_f, q_eq_t, q_eq_f, ne_eq, eq_self, Bool.false_eq_true, Bool.true_eq_false, not_true_eq_false, not_false_eq_true, true_and, and_true, false_and, and_false, true_or, or_true, false_or, or_false, if_true, if_false, Int.reduceAdd, Int.reduceMul, Int.reduceSub, Int.reduceNeg, wi, R_101_0, R_101_6, R_101_21, R_101_32, R_101_41, R_101_51, R_101_57, R_101_72, R_101_80, R_101_83, R_101_84, R_101_85, C_101_3, C_101_48]
      rw [Int.add_zero]
    rw [pre]
    refine t1.trans ?_
    show EV (d + 3) 101 12 [.ref 241, .ref 8, .int (q_I (p)), .int (q_I (i)), .int (q_I (6 * i + n))] [] (q_h L xs (t) O c) = _
    have out : EV (d + 3) 101 12 [.ref 241, .ref 8, .int (q_I (p)), .int (q_I (i)), .int (q_I (6 * i + n))] [] (q_h L xs (t) O c) = EV (d + 3) 101 57 [.ref 241, .ref 8, .int (q_I (p)), .int (q_I (i)), .int (q_I (6 * i + n))] [] (q_h L xs (t) O c) := by
      rw [R_101_12]
      by_cases c1 : RC ≤ 6 * i + n
      · simp (disch := first | omega | exact q_b_01 _) only [↓reduceIte, q_bk0, q_bk1, q_bk2, q_sg_b, q_b_0, q_b_n0, q_b_1, q_b_n1, q_b_T, q_b_F, q_sg_g, q_sg_sg, q_sg_xs, q_sg_id, q_gu_ne, q_gu_eq, q_g_fne, q_g_cpe, q_w_f, q_v_f, q_u_f, q_fn_f, q_cp_f, q_sg_pg, q_sg_hc, q_lt_t, q_lt_f, q_le_t, q_le_f, q_eq_t, q_eq_f, ne_eq, eq_self, Bool.false_eq_true, Bool.true_eq_false, not_true_eq_false, not_false_eq_true, true_and, and_true, false_and, and_false, true_or, or_true, false_or, or_false, if_true, if_false, Int.reduceAdd, Int.reduceMul, Int.reduceSub, Int.reduceNeg, g8]
      · have c6 : n = 6 := by omega
        simp (disch := first | omega | exact q_b_01 _) only [↓reduceIte, q_bk0, q_bk1, q_bk2, q_sg_b, q_b_0, q_b_n0, q_b_1, q_b_n1, q_b_T, q_b_F, q_sg_g, q_sg_sg, q_sg_xs, q_sg_id, q_gu_ne, q_gu_eq, q_g_fne, q_g_cpe, q_w_f, q_v_f, q_u_f, q_fn_f, q_cp_f, q_sg_pg, q_sg_hc, q_lt_t, q_lt_f, q_le_t, q_le_f, q_eq_t, q_eq_f, ne_eq, eq_self, Bool.false_eq_true, Bool.true_eq_false, not_true_eq_false, not_false_eq_true, true_and, and_true, false_and, and_false, true_or, or_true, false_or, or_false, if_true, if_false, Int.reduceAdd, Int.reduceMul, Int.reduceSub, Int.reduceNeg, g8, R_101_21]
    rw [out]
    by_cases c2 : i + 1 < sc
    · rw [if_pos c2] at hx
      simp (disch := first | omega | exact q_b_01 _) only [↓reduceIte, q_bk0, q_bk1, q_bk2, q_sg_b, q_b_0, q_b_n0, q_b_1, q_b_n1, q_b_T, q_b_F, q_sg_g, q_sg_sg, q_sg_xs, q_sg_id, q_gu_ne, q_gu_eq, q_g_fne, q_g_cpe, q_w_f, q_v_f, q_u_f, q_fn_f, q_cp_f, q_sg_pg, q_sg_hc, q_lt_t, q_lt_f, q_le_t, q_le_f, q_eq_t, q_eq_f, ne_eq, eq_self, Bool.false_eq_true, Bool.true_eq_false, not_true_eq_false, not_false_eq_true, true_and, and_true, false_and, and_false, true_or, or_true, false_or, or_false, if_true, if_false, Int.reduceAdd, Int.reduceMul, Int.reduceSub, Int.reduceNeg, g5, g56, hx, R_101_0, R_101_6, R_101_21, R_101_32, R_101_41, R_101_51, R_101_57, R_101_72, R_101_80, R_101_83, R_101_84, R_101_85, C_101_3, C_101_48]
    · rw [if_neg c2] at hx
      simp (disch := first | omega | exact q_b_01 _) only [↓reduceIte, q_bk0, q_bk1, q_bk2, q_sg_b, q_b_0, q_b_n0, q_b_1, q_b_n1, q_b_T, q_b_F, q_sg_g, q_sg_sg, q_sg_xs, q_sg_id, q_gu_ne, q_gu_eq, q_g_fne, q_g_cpe, q_w_f, q_v_f, q_u_f, q_fn_f, q_cp_f, q_sg_pg, q_sg_hc, q_lt_t, q_lt_f, q_le_t, q_le_f, q_eq_t, q_eq_f, ne_eq, eq_self, Bool.false_eq_true, Bool.true_eq_false, not_true_eq_false, not_false_eq_true, true_and, and_true, false_and, and_false, true_or, or_true, false_or, or_false, if_true, if_false, Int.reduceAdd, Int.reduceMul, Int.reduceSub, Int.reduceNeg, g5, hx, R_101_0, R_101_6, R_101_21, R_101_32, R_101_41, R_101_51, R_101_57, R_101_72, R_101_80, R_101_83, R_101_84, R_101_85, C_101_3, C_101_48]
  · rw [q_gu_ne (by omega)]
    exact P1
  · rw [q_gu_ne (by omega)]
    exact P2
  · rw [q_gu_eq rfl, q_sg_id xr.1 xr.2]
  · rw [q_gu_ne (by omega)]
    exact P4
  · rw [q_gu_ne (by omega), q_gu_ne (by omega)]
    exact P5 j j0 j1
theorem cc_writeHead {h rt ls : Int} (h0 : 0 ≤ h) (h1 : h ≤ 1) (w0 : 0 ≤ q_g s 11 h) (w1 : q_g s 11 h ≤ 9999) (hrt : (q_g s 242 10 = -1 ∧ rt = -1) ∨ (0 ≤ q_g s 242 10 ∧ q_g s 242 10 < 176 ∧ q_g s 255 (q_g s 242 10) = rt)) (hls : ls = if q_g s 241 5 = 0 then -1 else q_g s 256 0) : ∃ u, EV (d + 3) 100 0 [.ref 241, .ref 8, .int (q_I (h))] [] (q_h L xs s O c) = some (.inl none, q_h L xs (u) O c) ∧ PgW s h 4 0 (-1) (fun _ => 0) (fun _ => 0) u ∧ q_g u 15 (h * 4 + 0) = q_g s 241 11 ∧ q_g u 15 (h * 4 + 1) = rt ∧ q_g u 15 (h * 4 + 2) = ls ∧ q_g u 15 (h * 4 + 3) = q_g s 241 12 := by
  have wi := cc_wipe (d := d + 1) (L := L) (xs := xs) (s := s) (O := O) (c := c) (kind := 4) (p := h) h0 (by omega) w0 w1
  have mr : 0 ≤ mn 9999 (q_g s 11 h + 1) ∧ mn 9999 (q_g s 11 h + 1) ≤ 9999 := by
    unfold mn
    split <;> omega
  generalize hM : q_u (q_u (q_u (q_u s 9 h 4) 10 h 0) 12 h (-1)) 11 h (mn 9999 (q_g s 11 h + 1)) = M at wi
  have Mg : ∀ k z, 241 ≤ k → q_g M k z = q_g s k z := fun k z hk => by rw [← hM, q_gu_ne (by omega), q_gu_ne (by omega), q_gu_ne (by omega), q_gu_ne (by omega)]
  have r11 := q_g_rg s 241 11
  have r12 := q_g_rg s 241 12
  have rtr : -2147483648 ≤ rt ∧ rt < 2147483648 := by
    rcases hrt with ⟨-, e⟩ | ⟨-, -, e⟩
    · omega
    · rw [← e]
      exact q_g_rg s 255 _
  have lsr : -2147483648 ≤ ls ∧ ls < 2147483648 := by
    rw [hls]
    split
    · omega
    · exact q_g_rg s 256 0
  have M11 := Mg 241 11 (by omega)
  generalize hA : q_u M 15 (h * 4 + 0) (q_g s 241 11) = A
  have Ag : ∀ k z, 241 ≤ k → q_g A k z = q_g s k z := fun k z hk => by rw [← hA, q_gu_ne (by omega), Mg k z hk]
  have A10 := Ag 242 10 (by omega)
  have pf : EV (d + 2) 99 0 [.ref 241, .int (q_I (q_g s 242 10))] [] (q_h L xs (A) O c) = some (.inl (some (.int (q_I (rt)))), q_h L xs (A) O c) := by
    rcases hrt with ⟨e1, e2⟩ | ⟨e1, e2, e3⟩
    · rw [e1, e2]
      simp (disch := first | omega | exact q_b_01 _) only [↓reduceIte, q_bk0, q_bk1, q_bk2, q_sg_b, q_b_0, q_b_n0, q_b_1, q_b_n1, q_b_T, q_b_F, q_sg_g, q_sg_sg, q_sg_xs, q_sg_id, q_gu_ne, q_gu_eq, q_g_fne, q_g_cpe, q_w_f, q_v_f, q_u_f, q_fn_f, q_cp_f, q_sg_pg, q_sg_hc, q_lt_t, q_lt_f, q_le_t, q_le_f, q_eq_t, q_eq_f, ne_eq, eq_self, Bool.false_eq_true, Bool.true_eq_false, not_true_eq_false, not_false_eq_true, true_and, and_true, false_and, and_false, true_or, or_true, false_or, or_false, if_true, if_false, Int.reduceAdd, Int.reduceMul, Int.reduceSub, Int.reduceNeg, R_99_0, R_99_4, R_99_11, R_99_15, R_99_21]
    · have := cc_pageFor (d := d + 2) (L := L) (xs := xs) (s := A) (O := O) (c := c) e1 e2
      rw [Ag 255 _ (by omega), e3] at this
      exact this
  generalize hB : q_u A 15 (h * 4 + 1) rt = B
  have Bg : ∀ k z, 241 ≤ k → q_g B k z = q_g s k z := fun k z hk => by rw [← hB, q_gu_ne (by omega), Ag k z hk]
  have B5 := Bg 241 5 (by omega)
  have B56 := Bg 256 0 (by omega)
  have B12 := Bg 241 12 (by omega)
  generalize hC : q_u B 15 (h * 4 + 2) ls = C
  have C12 : q_g C 241 12 = q_g s 241 12 := by rw [← hC, q_gu_ne (by omega), Bg 241 12 (by omega)]
  generalize hD : q_u C 15 (h * 4 + 3) (q_g s 241 12) = D
  have Dz : ∀ k z, ¬ (k = 15 ∧ h * 4 ≤ z ∧ z < h * 4 + 4) → q_g D k z = q_g M k z := fun k z hk => by rw [← hD, q_gu_ne (by omega), ← hC, q_gu_ne (by omega), ← hB, q_gu_ne (by omega), ← hA, q_gu_ne (by omega)]
  refine ⟨D, ?_, ⟨?_, ?_, ?_, ?_, fun e e0 e1 => by omega, fun k z a1 a2 a3 => ?_⟩, ?_, ?_, ?_, ?_⟩
  · by_cases e : q_g s 241 5 = 0
    · rw [if_pos e] at hls
      rw [e] at B5
      simp (disch := first | omega | exact q_b_01 _) only [↓reduceIte, q_bk0, q_bk1, q_bk2, q_sg_b, q_b_0, q_b_n0, q_b_1, q_b_n1, q_b_T, q_b_F, q_sg_g, q_sg_sg, q_sg_xs, q_sg_id, q_gu_ne, q_gu_eq, q_g_fne, q_g_cpe, q_w_f, q_v_f, q_u_f, q_fn_f, q_cp_f, q_sg_pg, q_sg_hc, q_lt_t, q_lt_f, q_le_t, q_le_f, q_eq_t, q_eq_f, ne_eq, eq_self, Bool.false_eq_true, Bool.true_eq_false, not_true_eq_false, not_false_eq_true, true_and, and_true, false_and, and_false, true_or, or_true, false_or, or_false, if_true, if_false, Int.reduceAdd, Int.reduceMul, Int.reduceSub, Int.reduceNeg, wi, M11, cc_tellHead, hA, A10, pf, hB, B5, R_100_0, R_100_6, R_100_16, R_100_33, R_100_43, R_100_47, R_100_56, R_100_66, C_100_3, C_100_13, C_100_27, C_100_30, C_100_53, C_100_63]
      rw [← hls]
      simp (disch := first | omega | exact q_b_01 _) only [↓reduceIte, q_bk0, q_bk1, q_bk2, q_sg_b, q_b_0, q_b_n0, q_b_1, q_b_n1, q_b_T, q_b_F, q_sg_g, q_sg_sg, q_sg_xs, q_sg_id, q_gu_ne, q_gu_eq, q_g_fne, q_g_cpe, q_w_f, q_v_f, q_u_f, q_fn_f, q_cp_f, q_sg_pg, q_sg_hc, q_lt_t, q_lt_f, q_le_t, q_le_f, q_eq_t, q_eq_f, ne_eq, eq_self, Bool.false_eq_true, Bool.true_eq_false, not_true_eq_false, not_false_eq_true, true_and, and_true, false_and, and_false, true_or, or_true, false_or, or_false, if_true, if_false, Int.reduceAdd, Int.reduceMul, Int.reduceSub, Int.reduceNeg, cc_tellHead, hC, B12, C12, hD, R_100_0, R_100_6, R_100_16, R_100_33, R_100_43, R_100_47, R_100_56, R_100_66, C_100_3, C_100_13, C_100_27, C_100_30, C_100_53, C_100_63]
    · rw [if_neg e] at hls
      have B5' : ¬ q_g B 241 5 = 0 := by rw [B5]; exact e
      simp (disch := first | omega | exact q_b_01 _) only [↓reduceIte, q_bk0, q_bk1, q_bk2, q_sg_b, q_b_0, q_b_n0, q_b_1, q_b_n1, q_b_T, q_b_F, q_sg_g, q_sg_sg, q_sg_xs, q_sg_id, q_gu_ne, q_gu_eq, q_g_fne, q_g_cpe, q_w_f, q_v_f, q_u_f, q_fn_f, q_cp_f, q_sg_pg, q_sg_hc, q_lt_t, q_lt_f, q_le_t, q_le_f, q_eq_t, q_eq_f, ne_eq, eq_self, Bool.false_eq_true, Bool.true_eq_false, not_true_eq_false, not_false_eq_true, true_and, and_true, false_and, and_false, true_or, or_true, false_or, or_false, if_true, if_false, Int.reduceAdd, Int.reduceMul, Int.reduceSub, Int.reduceNeg, wi, M11, cc_tellHead, hA, A10, pf, hB, B5', B56, R_100_0, R_100_6, R_100_16, R_100_33, R_100_43, R_100_47, R_100_56, R_100_66, C_100_3, C_100_13, C_100_27, C_100_30, C_100_53, C_100_63]
      rw [← hls]
      simp (disch := first | omega | exact q_b_01 _) only [↓reduceIte, q_bk0, q_bk1, q_bk2, q_sg_b, q_b_0, q_b_n0, q_b_1, q_b_n1, q_b_T, q_b_F, q_sg_g, q_sg_sg, q_sg_xs, q_sg_id, q_gu_ne, q_gu_eq, q_g_fne, q_g_cpe, q_w_f, q_v_f, q_u_f, q_fn_f, q_cp_f, q_sg_pg, q_sg_hc, q_lt_t, q_lt_f, q_le_t, q_le_f, q_eq_t, q_eq_f, ne_eq, eq_self, Bool.false_eq_true, Bool.true_eq_false, not_true_eq_false, not_false_eq_true, true_and, and_true, false_and, and_false, true_or, or_true, false_or, or_false, if_true, if_false, Int.reduceAdd, Int.reduceMul, Int.reduceSub, Int.reduceNeg, cc_tellHead, hC, B12, C12, hD, R_100_0, R_100_6, R_100_16, R_100_33, R_100_43, R_100_47, R_100_56, R_100_66, C_100_3, C_100_13, C_100_27, C_100_30, C_100_53, C_100_63]
  · rw [Dz 9 h (by omega), ← hM, q_gu_ne (by omega), q_gu_ne (by omega), q_gu_ne (by omega), q_gu_eq rfl]
    rfl
  · rw [Dz 10 h (by omega), ← hM, q_gu_ne (by omega), q_gu_ne (by omega), q_gu_eq rfl]
    rfl
  · rw [Dz 12 h (by omega), ← hM, q_gu_ne (by omega), q_gu_eq rfl]
    rfl
  · rw [Dz 11 h (by omega), ← hM, q_gu_eq rfl, q_sg_id (by omega) (by omega)]
  · rw [← hD, q_u_n (by omega), ← hC, q_u_n (by omega), ← hB, q_u_n (by omega), ← hA, q_u_n (by omega), ← hM, q_u_n (by omega), q_u_n (by omega), q_u_n (by omega), q_u_n (by omega)]
  · rw [← hD, q_gu_ne (by omega), ← hC, q_gu_ne (by omega), ← hB, q_gu_ne (by omega), ← hA, q_gu_eq rfl, q_sg_id r11.1 r11.2]
  · rw [← hD, q_gu_ne (by omega), ← hC, q_gu_ne (by omega), ← hB, q_gu_eq rfl, q_sg_id rtr.1 rtr.2]
  · rw [← hD, q_gu_ne (by omega), ← hC, q_gu_eq rfl, q_sg_id lsr.1 lsr.2]
  · rw [← hD, q_gu_eq rfl, q_sg_id r12.1 r12.2]
end CW2
/-! the class's state tells the row behind a write -/
theorem RB_pg {m m' : Int → Int} {s u : Nat → Int → Int32} {p : Int} (H : RB m s 7) (p0 : 0 ≤ p) (p1 : p < 48) (hr : ∀ q, 0 ≤ q → q < 48 → 0 ≤ pg m q 1 ∧ pg m q 1 ≤ 6) (h8 : m 8 ≤ 12) (hl6 : m 6 ≤ 60) (hm : ∀ z, ¬ (281 + 16 * p ≤ z ∧ z < 297 + 16 * p) → m' z = m z) (hu : PgF s p u) (e0 : q_g u 9 p = pg m' p 0) (e1 : q_g u 10 p = pg m' p 1) (e2 : q_g u 11 p = pg m' p 2) (e3 : q_g u 12 p = pg m' p 3) (e4 : ∀ k, 0 ≤ k → k < pg m' p 1 → q_g u 13 (p * 6 + k) = pg m' p (4 + k) ∧ q_g u 14 (p * 6 + k) = pg m' p (10 + k)) (e5 : p < 2 → pg m' p 0 = 4 → ∀ w, 0 ≤ w → w < 4 → q_g u 15 (p * 4 + w) = pg m' p (4 + w)) : RB m' u 7 := by
  have g : ∀ k z, ¬ ((9 ≤ k ∧ k ≤ 12) ∧ z = p) → ¬ ((k = 13 ∨ k = 14) ∧ p * 6 ≤ z ∧ z < p * 6 + 6) → ¬ (k = 15 ∧ p * 4 ≤ z ∧ z < p * 4 + 4) → q_g u k z = q_g s k z := fun k z a1 a2 a3 => by
    show (u k z).toInt = _
    rw [hu k z a1 a2 a3]
    rfl
  have pe : ∀ q w, q ≠ p → 0 ≤ w → w < 16 → pg m' q w = pg m q w := fun q w hq w0 w1 => hm _ (by omega)
  obtain ⟨h1, h2, h3, h4, h5, h6, h7⟩ := H
  refine ⟨fun q q0 q1 => ?_, fun h hh0 hh1 hk w w0 w1 => ?_, fun r r0 r1 => ?_, ?_, ?_, ?_, fun a w a0 a1 w0 w1 => ?_⟩
  · by_cases e : q = p
    · rw [e]
      exact ⟨e0, e1, e2, e3, e4⟩
    · obtain ⟨a1, a2, a3, a4, a5⟩ := h1 q q0 q1
      have rr := hr q q0 q1
      refine ⟨?_, ?_, ?_, ?_, fun k k0 k1 => ?_⟩
      · rw [g 9 q (by omega) (by omega) (by omega), pe q 0 e (by omega) (by omega)]
        exact a1
      · rw [g 10 q (by omega) (by omega) (by omega), pe q 1 e (by omega) (by omega)]
        exact a2
      · rw [g 11 q (by omega) (by omega) (by omega), pe q 2 e (by omega) (by omega)]
        exact a3
      · rw [g 12 q (by omega) (by omega) (by omega), pe q 3 e (by omega) (by omega)]
        exact a4
      · rw [pe q 1 e (by omega) (by omega)] at k1
        rw [g 13 _ (by omega) (by omega) (by omega), g 14 _ (by omega) (by omega) (by omega), pe q (4 + k) e (by omega) (by omega), pe q (10 + k) e (by omega) (by omega)]
        exact a5 k k0 k1
  · by_cases e : h = p
    · rw [e] at hk ⊢
      exact e5 (by omega) hk w w0 w1
    · rw [pe h 0 e (by omega) (by omega)] at hk
      rw [g 15 _ (by omega) (by omega) (by omega), pe h (4 + w) e (by omega) (by omega)]
      exact h2 h hh0 hh1 hk w w0 w1
  · rw [hm (9 + 2 * r) (by omega), hm (10 + 2 * r) (by omega), g 16 r (by omega) (by omega) (by omega), g 17 r (by omega) (by omega) (by omega)]
    exact h3 r r0 r1
  · rw [hm 8 (by omega), g 7 5 (by omega) (by omega) (by omega)]
    refine ⟨h4.1, fun k k0 k1 => ?_⟩
    rw [g 18 k (by omega) (by omega) (by omega), g 19 k (by omega) (by omega) (by omega), hm (17 + 2 * k) (by omega), hm (18 + 2 * k) (by omega)]
    exact h4.2 k k0 k1
  · rw [hm 3 (by omega), hm 4 (by omega), hm 5 (by omega), hm 7 (by omega), hm 0 (by omega), hm 6 (by omega), g 7 6 (by omega) (by omega) (by omega), g 7 7 (by omega) (by omega) (by omega), g 7 8 (by omega) (by omega) (by omega), g 7 9 (by omega) (by omega) (by omega), g 7 10 (by omega) (by omega) (by omega), g 7 12 (by omega) (by omega) (by omega)]
    exact h5
  · rw [g 7 13 (by omega) (by omega) (by omega)]
    exact h6
  · rw [hm 6 (by omega)] at a1
    rw [g 7 13 (by omega) (by omega) (by omega), g 20 _ (by omega) (by omega) (by omega), hm (41 + 4 * a + w) (by omega)]
    exact h7 a w a0 a1 w0 w1
