/-! ONE TICK, of both -/
section TC2
variable {d L : Nat} {xs : Nat → Int32} {s s' u v : Nat → Int → Int32} {O : Nat → Int64} {c : Bool × Nat × Nat} {m : Int → Int} {b n a i : Int}
noncomputable def TkF (s u : Nat → Int → Int32) : Prop := ∀ k z, ¬ (7 ≤ k ∧ k ≤ 20) → k ≠ 54 → ¬ (241 ≤ k ∧ k ≤ 260) → k ≠ 265 → k ≠ 266 → u k z = s k z
noncomputable def PsF (v t : Nat → Int → Int32) : Prop := ∀ k z, k ≠ 286 → ¬ (291 ≤ k ∧ k ≤ 306) → ¬ (k = 285 ∧ (z = 9 ∨ z = 10 ∨ z = 11 ∨ z = 13 ∨ z = 15 ∨ z = 16 ∨ z = 19 ∨ z = 25 ∨ z = 26 ∨ z = 29 ∨ z = 34 ∨ z = 35 ∨ z = 36 ∨ z = 39 ∨ z = 40)) → t k z = v k z
noncomputable def tkn (x : Int) : Int := mn 9999 (x + 1)
theorem tkn_rg {x : Int} (h : 0 ≤ x) : 0 ≤ tkn x ∧ tkn x ≤ 9999 := by
  unfold tkn mn
  split
  · omega
  · omega
theorem cc_tEnd {x : Int} (h8 : q_g u 7 8 = x) (x0 : 0 ≤ x) (x1 : x ≤ 9999) : EV (d + 1) 193 107 [.ref 1, .int (q_I (n)), .int (q_I (a)), .int (q_I (i))] [] (q_h L xs (u) O c) = EV (d + 1) 193 4 [.ref 1, .int (q_I (n)), .int (q_I (a)), .int (q_I (i + 1))] [] (q_h L xs (q_u u 7 8 (tkn x)) O c) := by
  have mi := jj_min (d := d) (L := L) (xs := xs) (s := u) (O := O) (c := c) (x := 9999) (y := x + 1)
  have e : (if q_sg (x + 1) < q_sg 9999 then x + 1 else 9999) = tkn x := by
    unfold tkn mn
    rw [q_sg_id (x := x + 1) (by omega) (by omega), q_sg_id (x := 9999) (by omega) (by omega)]
    repeat' split
    all_goals omega
  rw [e] at mi
  simp (disch := first | omega | exact q_b_01 _) only [↓reduceIte, q_bk0, q_bk1, q_bk2, q_sg_b, q_b_0, q_b_n0, q_b_1, q_b_n1, q_b_T, q_b_F, q_sg_g, q_sg_sg, q_sg_xs, q_sg_id, q_gu_ne, q_gu_eq, q_g_fne, q_g_cpe, q_w_f, q_v_f, q_u_f, q_fn_f, q_cp_f, q_sg_pg, q_sg_hc, q_lt_t, q_lt_f, q_le_t, q_le_f, q_eq_t, q_eq_f, ne_eq, eq_self, Bool.false_eq_true, Bool.true_eq_false, not_true_eq_false, not_false_eq_true, true_and, and_true, false_and, and_false, true_or, or_true, false_or, or_false, if_true, if_false, Int.reduceAdd, Int.reduceMul, Int.reduceSub, Int.reduceNeg, h8, mi, R_193_107, C_193_123, R_193_126, R_193_129]
theorem mm_tEnd {x ans : Int} {y : Value} (h5 : q_g v 286 5 = x) (x0 : 0 ≤ x) (x1 : x ≤ 9999) (ha : ans = 0 ∨ ans = 1) : EV (d + 1) 286 68 [.ref 285, y] [.int (q_I (ans))] (q_h L xs (v) O c) = some (.inl (some (.int (q_I (ans)))), q_h L xs (q_u v 286 5 (tkn x)) O c) := by
  have mi := mm_lesser (d := d) (L := L) (xs := xs) (s := v) (O := O) (c := c) (a := 9999) (b := x + 1)
  have e : (if q_sg 9999 < q_sg (x + 1) then (9999 : Int) else x + 1) = tkn x := by
    unfold tkn mn
    rw [q_sg_id (x := x + 1) (by omega) (by omega), q_sg_id (x := 9999) (by omega) (by omega)]
  rw [e] at mi
  simp (disch := first | omega | exact ha) only [↓reduceIte, q_bk0, q_bk1, q_bk2, q_sg_b, q_b_0, q_b_n0, q_b_1, q_b_n1, q_b_T, q_b_F, q_sg_g, q_sg_sg, q_sg_xs, q_sg_id, q_gu_ne, q_gu_eq, q_g_fne, q_g_cpe, q_w_f, q_v_f, q_u_f, q_fn_f, q_cp_f, q_sg_pg, q_sg_hc, q_lt_t, q_lt_f, q_le_t, q_le_f, q_eq_t, q_eq_f, ne_eq, eq_self, Bool.false_eq_true, Bool.true_eq_false, not_true_eq_false, not_false_eq_true, true_and, and_true, false_and, and_false, true_or, or_true, false_or, or_false, if_true, if_false, Int.reduceAdd, Int.reduceMul, Int.reduceSub, Int.reduceNeg, h5, mi, R_286_68, R_286_83, C_286_85, R_286_88, R_286_89]
theorem both_end {m2 : Int → Int} (H : RB m2 u 7) (I : Inv m2 b) (em : q_g v 286 = m2) {x : Int} (hx : m2 5 = x) : RB (q_g (q_u v 286 5 (tkn x)) 286) (q_u u 7 8 (tkn x)) 7 ∧ Inv (q_g (q_u v 286 5 (tkn x)) 286) b ∧ (∀ z, z ≠ 5 → q_g (q_u v 286 5 (tkn x)) 286 z = m2 z) := by
  have i6 := I.2.2.1
  have r := tkn_rg (x := x) (by omega)
  have e : q_g (q_u v 286 5 (tkn x)) 286 = up m2 5 (tkn x) := by rw [q_g_u286, em, q_sg_id (by omega) (by omega)]
  rw [e]
  exact ⟨RB_tick H (fun q q0 q1 => (inv_rows I q q0 q1).2) I.2.1.2.1 r.1 (by omega), Inv_tick I r.1 r.2, fun z hz => up_ne hz⟩
theorem one_tick (I : Inv m b) (hb : b < 2147483646) (H : RB m s 7) (hL : LawP m (q_g s 49) (q_g s 50) (q_g s 51) (q_g s 52) (q_g s 53)) (em : q_g s' 286 = m) (i0 : 0 ≤ i) (i1 : i < n) (n1 : n ≤ 60) (a0 : 0 ≤ a) (a1 : a ≤ 60) : ∃ u ans, EV (d + 16) 193 4 [.ref 1, .int (q_I (n)), .int (q_I (a)), .int (q_I (i))] [] (q_h L xs s O c) = EV (d + 16) 193 4 [.ref 1, .int (q_I (n)), .int (q_I (a + ans)), .int (q_I (i + 1))] [] (q_h L xs (u) O c) ∧ (ans = 0 ∨ ans = 1) ∧ TkF s u ∧ ∀ (v : Nat → Int → Int32) (d : Nat) (O : Nat → Int64) (c : Bool × Nat × Nat), q_g v 286 = m → ∃ t, EV (d + 38) 286 0 [.ref 285, .null] [] (q_h L xs (v) O c) = some (.inl (some (.int (q_I (ans)))), q_h L xs (t) O c) ∧ RB (q_g t 286) u 7 ∧ Inv (q_g t 286) (b + 1) ∧ (∀ z, z < 0 ∨ z = 0 ∨ z = 1 ∨ z = 2 ∨ z = 3 ∨ 1049 ≤ z → q_g t 286 z = m z) ∧ PsF v t := by
  obtain ⟨s1, c1, c2, c3, c4, c5⟩ := cc_draws (d := d + 15) (L := L) (xs := xs) (O := O) (c := c) (n := n) (a := a) (i := i) H I
  obtain ⟨s'', -, e2, e3, e4, e5, -⟩ := mm_draws (d := d) (L := L) (xs := xs) (O := O) (c := c) em
  have I1 : Inv (up m 7 (tks (m 7))) b := Inv_seed I
  have i6 := I.2.2.1
  have L1 : LawP (up m 7 (tks (m 7))) (q_g s1 49) (q_g s1 50) (q_g s1 51) (q_g s1 52) (q_g s1 53) := LawP_sm (LawP_ext hL (fun z hz => up_ne (by omega))) (fun k z h1 h2 => c5 k z (by omega) (by omega) (by omega))
  have um : ∀ z, z ≠ 7 → up m 7 (tks (m 7)) z = m z := fun z hz => up_ne hz
  have k1 := (dr_rg (sdn (m 7))).1
  have v1 := tkv_rg (m 7)
  generalize hm1 : up m 7 (tks (m 7)) = m1 at *
  have m5 := um 5 (by omega)
  have start : EV (d + 16) 193 4 [.ref 1, .int (q_I (n)), .int (q_I (a)), .int (q_I (i))] [] (q_h L xs s O c) = EV (d + 16) 193 59 [.ref 1, .int (q_I (n)), .int (q_I (a)), .int (q_I (i))] [] (q_h L xs (s1) O c) := by
    rw [← c1, R_193_4]
    simp (disch := first | omega | exact q_b_01 _) only [↓reduceIte, q_bk0, q_bk1, q_bk2, q_sg_b, q_b_0, q_b_n0, q_b_1, q_b_n1, q_b_T, q_b_F, q_sg_g, q_sg_sg, q_sg_xs, q_sg_id, q_gu_ne, q_gu_eq, q_g_fne, q_g_cpe, q_w_f, q_v_f, q_u_f, q_fn_f, q_cp_f, q_sg_pg, q_sg_hc, q_lt_t, q_lt_f, q_le_t, q_le_f, q_eq_t, q_eq_f, ne_eq, eq_self, Bool.false_eq_true, Bool.true_eq_false, not_true_eq_false, not_false_eq_true, true_and, and_true, false_and, and_false, true_or, or_true, false_or, or_false, if_true, if_false, Int.reduceAdd, Int.reduceMul, Int.reduceSub, Int.reduceNeg]
  have pw : ∀ v', q_g v' 286 = m1 → q_g v' 285 19 = 1 → q_g v' 292 0 = tkk (m 7) → q_g v' 293 0 = tkv (m 7) → PlW m1 1 (q_g s1 265) (q_g s1 266) v' := fun v' h1 h2 h3 h4 => ⟨h1, h2, fun i i0 i1 => by rw [show i = 0 by omega, c3, c4]; exact ⟨h3, h4⟩⟩
  have key := both_make (d := d) (L := L) (xs := xs) (s := s1) (O := O) (c := c) (n := 1) (x2 := 265) (x3 := 266) c2 I1 e2 hb ly_a265 ly_a266 (by decide) (by decide) (by omega) (by omega) (by omega) (by omega) (by omega) (by omega) (fun i i0 i1 => by
    rw [show i = 0 by omega, c3, c4]
    unfold tkk
    omega)
  have g8 : ∀ {u : Nat → Int → Int32}, RB m1 u 7 → q_g u 7 8 = m 5 := fun {u} h => by rw [rb_tick h, m5]
  have Hk : ∀ {u : Nat → Int → Int32}, PlnF s1 u → RB m1 u 7 := fun {u} h => rb_k c2 (fun k z h1 h2 => h k z (by omega))
  have fr : ∀ {u : Nat → Int → Int32} {x : Int}, PlnF s1 u → TkF s (q_u u 7 8 x) := fun {u x} h k z h1 h2 h3 h4 h5 => by rw [q_u_n (by omega), h k z (by omega), c5 k z (by omega) h4 h5]
  rcases key with ⟨u, u1, u2, u3, u4⟩ | ⟨u, u1, u3, u4⟩ | ⟨T, Lf, sc, u, u0, u1, u2, u3, u4⟩
  · refine ⟨q_u u 7 8 (tkn (m 5)), 0, ?_, Or.inl rfl, fr u3, fun v d O c ev => ?_⟩
    · rw [start, Int.add_zero, ← cc_tEnd (g8 (Hk u3)) (by omega) (by omega)]
      simp (disch := first | omega | exact q_b_01 _) only [↓reduceIte, q_bk0, q_bk1, q_bk2, q_sg_b, q_b_0, q_b_n0, q_b_1, q_b_n1, q_b_T, q_b_F, q_sg_g, q_sg_sg, q_sg_xs, q_sg_id, q_gu_ne, q_gu_eq, q_g_fne, q_g_cpe, q_w_f, q_v_f, q_u_f, q_fn_f, q_cp_f, q_sg_pg, q_sg_hc, q_lt_t, q_lt_f, q_le_t, q_le_f, q_eq_t, q_eq_f, ne_eq, eq_self, Bool.false_eq_true, Bool.true_eq_false, not_true_eq_false, not_false_eq_true, true_and, and_true, false_and, and_false, true_or, or_true, false_or, or_false, if_true, if_false, Int.reduceAdd, Int.reduceMul, Int.reduceSub, Int.reduceNeg, u1, R_193_59, C_193_76, R_193_79]
    · obtain ⟨v1, f1, f2, f3, f4, f5, f6⟩ := mm_draws (d := d + 37) (L := L) (xs := xs) (O := O) (c := c) ev
      rw [hm1] at f2
      obtain ⟨v2, p1, p2, p3, p4⟩ := u4 v1 (d + 19) O c (pw v1 f2 f3 f4 f5)
      have pf := mm_pfm0 (d := d + 33) (L := L) (xs := xs) (s := v2) (O := O) (c := c) (x1 := 0) (x2 := 1) p3
      have e8 : q_g (q_u v2 285 40 0) 286 = m1 := by
        rw [q_u_f (by omega), ← f2]
        exact funext fun z => by
          show (v2 286 z).toInt = _
          rw [p4 286 z (by omega) (by omega)]
          rfl
      obtain ⟨b1, b2, b3⟩ := both_end (v := q_u v2 285 40 0) (Hk u3) I1 e8 m5
      refine ⟨q_u (q_u v2 285 40 0) 286 5 (tkn (m 5)), ?_, b1, Inv_mono b2 (by omega), fun z hz => by rw [b3 z (by omega), um z (by omega)], fun k z h1 h2 h3 => ?_⟩
      · rw [← mm_tEnd (d := d + 37) (ans := 0) (y := .null) (by rw [e8, m5]) (by omega) (by omega) (Or.inl rfl), f1]
        simp (disch := first | omega | exact q_b_01 _) only [↓reduceIte, q_bk0, q_bk1, q_bk2, q_sg_b, q_b_0, q_b_n0, q_b_1, q_b_n1, q_b_T, q_b_F, q_sg_g, q_sg_sg, q_sg_xs, q_sg_id, q_gu_ne, q_gu_eq, q_g_fne, q_g_cpe, q_w_f, q_v_f, q_u_f, q_fn_f, q_cp_f, q_sg_pg, q_sg_hc, q_lt_t, q_lt_f, q_le_t, q_le_f, q_eq_t, q_eq_f, ne_eq, eq_self, Bool.false_eq_true, Bool.true_eq_false, not_true_eq_false, not_false_eq_true, true_and, and_true, false_and, and_false, true_or, or_true, false_or, or_false, if_true, if_false, Int.reduceAdd, Int.reduceMul, Int.reduceSub, Int.reduceNeg, p1, p2, pf, R_286_43, C_286_44, R_286_47, R_286_54, C_286_57, R_286_60, R_286_67]
      · rw [q_u_n (by omega), q_u_n (by omega), p4 k z (by omega) (by omega), f6 k z (by omega) (by omega) (by omega) (by omega)]
  · refine ⟨q_u u 7 8 (tkn (m 5)), 0, ?_, Or.inl rfl, fr u3, fun v d O c ev => ?_⟩
    · rw [start, Int.add_zero, ← cc_tEnd (g8 (Hk u3)) (by omega) (by omega)]
      simp (disch := first | omega | exact q_b_01 _) only [↓reduceIte, q_bk0, q_bk1, q_bk2, q_sg_b, q_b_0, q_b_n0, q_b_1, q_b_n1, q_b_T, q_b_F, q_sg_g, q_sg_sg, q_sg_xs, q_sg_id, q_gu_ne, q_gu_eq, q_g_fne, q_g_cpe, q_w_f, q_v_f, q_u_f, q_fn_f, q_cp_f, q_sg_pg, q_sg_hc, q_lt_t, q_lt_f, q_le_t, q_le_f, q_eq_t, q_eq_f, ne_eq, eq_self, Bool.false_eq_true, Bool.true_eq_false, not_true_eq_false, not_false_eq_true, true_and, and_true, false_and, and_false, true_or, or_true, false_or, or_false, if_true, if_false, Int.reduceAdd, Int.reduceMul, Int.reduceSub, Int.reduceNeg, u1, R_193_59, C_193_76, R_193_79]
    · obtain ⟨v1, f1, f2, f3, f4, f5, f6⟩ := mm_draws (d := d + 37) (L := L) (xs := xs) (O := O) (c := c) ev
      rw [hm1] at f2
      obtain ⟨v2, p1, p2, p3, p4⟩ := u4 v1 (d + 19) O c (pw v1 f2 f3 f4 f5)
      have e8 : q_g v2 286 = m1 := by
        rw [← f2]
        exact funext fun z => by
          show (v2 286 z).toInt = _
          rw [p4 286 z (by omega) (by omega)]
          rfl
      obtain ⟨b1, b2, b3⟩ := both_end (v := v2) (Hk u3) I1 e8 m5
      refine ⟨q_u v2 286 5 (tkn (m 5)), ?_, b1, Inv_mono b2 (by omega), fun z hz => by rw [b3 z (by omega), um z (by omega)], fun k z h1 h2 h3 => ?_⟩
      · rw [← mm_tEnd (d := d + 37) (ans := 0) (y := .null) (by rw [e8, m5]) (by omega) (by omega) (Or.inl rfl), f1]
        simp (disch := first | omega | exact q_b_01 _) only [↓reduceIte, q_bk0, q_bk1, q_bk2, q_sg_b, q_b_0, q_b_n0, q_b_1, q_b_n1, q_b_T, q_b_F, q_sg_g, q_sg_sg, q_sg_xs, q_sg_id, q_gu_ne, q_gu_eq, q_g_fne, q_g_cpe, q_w_f, q_v_f, q_u_f, q_fn_f, q_cp_f, q_sg_pg, q_sg_hc, q_lt_t, q_lt_f, q_le_t, q_le_f, q_eq_t, q_eq_f, ne_eq, eq_self, Bool.false_eq_true, Bool.true_eq_false, not_true_eq_false, not_false_eq_true, true_and, and_true, false_and, and_false, true_or, or_true, false_or, or_false, if_true, if_false, Int.reduceAdd, Int.reduceMul, Int.reduceSub, Int.reduceNeg, p1, p2, R_286_43, C_286_44, R_286_47, R_286_67]
      · rw [q_u_n (by omega), p4 k z (by omega) (by omega), f6 k z (by omega) (by omega) (by omega) (by omega)]
  · obtain ⟨Lv, D, PT, LP, OL, DP, Sc, Kc, kn, -⟩ := id u0
    have s0 := Sc.1
    have s8 := Sc.2.1
    have cp := TK_ct (inv_tk I1 (by omega)) (show 0 ≤ cNo T + sc by omega) Kc
    have Lu : LawP m1 (q_g u 49) (q_g u 50) (q_g u 51) (q_g u 52) (q_g u 53) := LawP_sm L1 (fun k z h1 h2 => u3 k z (by omega))
    obtain ⟨w, ans, w1, w2, w3, w4⟩ := both_perf (d := d + 9) (L := L) (xs := xs) (s := u) (O := O) (c := c) (dr := true) (pw := 1000) (pw' := 0) I1 hb u0 u2 (Hk u3) Lu (by omega) (by omega) (by omega) (by omega) (Or.inl rfl)
    have e1 : bI true = 1 := rfl
    rw [e1] at w1
    -- the class's tick, by a run of the reference
    have w8 : q_g w 7 8 = m 5 := by
      obtain ⟨v2, p1, p2, p3, p4⟩ := u4 s'' 0 O c (pw s'' e2 e3 e4 e5)
      obtain ⟨t, -, t2, -, t4, -⟩ := w4 v2 0 O c (by
        rw [← e2]
        exact funext fun z => by
          show (v2 286 z).toInt = _
          rw [p4 286 z (by omega) (by omega)]
          rfl) p3
      rw [rb_tick t2, t4 5 (by omega), m5]
    refine ⟨q_u w 7 8 (tkn (m 5)), ans, ?_, w3, fun k z h1 h2 h3 h4 h5 => ?_, fun v d O c ev => ?_⟩
    · rw [start, ← cc_tEnd w8 (by omega) (by omega)]
      rcases w3 with w3 | w3
      · subst w3
        rw [Int.add_zero]
        simp (disch := first | omega | exact q_b_01 _) only [↓reduceIte, q_bk0, q_bk1, q_bk2, q_sg_b, q_b_0, q_b_n0, q_b_1, q_b_n1, q_b_T, q_b_F, q_sg_g, q_sg_sg, q_sg_xs, q_sg_id, q_gu_ne, q_gu_eq, q_g_fne, q_g_cpe, q_w_f, q_v_f, q_u_f, q_fn_f, q_cp_f, q_sg_pg, q_sg_hc, q_lt_t, q_lt_f, q_le_t, q_le_f, q_eq_t, q_eq_f, ne_eq, eq_self, Bool.false_eq_true, Bool.true_eq_false, not_true_eq_false, not_false_eq_true, true_and, and_true, false_and, and_false, true_or, or_true, false_or, or_false, if_true, if_false, Int.reduceAdd, Int.reduceMul, Int.reduceSub, Int.reduceNeg, u1, w1, R_193_59, C_193_76, R_193_79, R_193_82, C_193_98, R_193_101]
      · subst w3
        simp (disch := first | omega | exact q_b_01 _) only [↓reduceIte, q_bk0, q_bk1, q_bk2, q_sg_b, q_b_0, q_b_n0, q_b_1, q_b_n1, q_b_T, q_b_F, q_sg_g, q_sg_sg, q_sg_xs, q_sg_id, q_gu_ne, q_gu_eq, q_g_fne, q_g_cpe, q_w_f, q_v_f, q_u_f, q_fn_f, q_cp_f, q_sg_pg, q_sg_hc, q_lt_t, q_lt_f, q_le_t, q_le_f, q_eq_t, q_eq_f, ne_eq, eq_self, Bool.false_eq_true, Bool.true_eq_false, not_true_eq_false, not_false_eq_true, true_and, and_true, false_and, and_false, true_or, or_true, false_or, or_false, if_true, if_false, Int.reduceAdd, Int.reduceMul, Int.reduceSub, Int.reduceNeg, u1, w1, R_193_59, C_193_76, R_193_79, R_193_82, C_193_98, R_193_101, R_193_104]
    · rw [q_u_n (by omega), w2 k z h1 (by omega) h2, u3 k z h3, c5 k z (by omega) h4 h5]
    · obtain ⟨v1, f1, f2, f3, f4, f5, f6⟩ := mm_draws (d := d + 37) (L := L) (xs := xs) (O := O) (c := c) ev
      rw [hm1] at f2
      obtain ⟨v2, p1, p2, p3, p4⟩ := u4 v1 (d + 19) O c (pw v1 f2 f3 f4 f5)
      have e8 : q_g v2 286 = m1 := by
        rw [← f2]
        exact funext fun z => by
          show (v2 286 z).toInt = _
          rw [p4 286 z (by omega) (by omega)]
          rfl
      obtain ⟨t, t1, t2, t3, t4, t5⟩ := w4 v2 d O c e8 p3
      rw [e1] at t1
      have t5' : q_g t 286 5 = m 5 := by rw [t4 5 (by omega), m5]
      obtain ⟨b1, b2, b3⟩ := both_end (v := t) t2 t3 rfl t5'
      refine ⟨q_u t 286 5 (tkn (m 5)), ?_, b1, b2, fun z hz => by rw [b3 z (by omega), t4 z (by omega), um z (by omega)], fun k z h1 h2 h3 => ?_⟩
      · rw [← mm_tEnd (d := d + 37) (ans := ans) (y := .null) t5' (by omega) (by omega) w3, f1]
        rcases w3 with w3 | w3
        · subst w3
          simp (disch := first | omega | exact q_b_01 _) only [↓reduceIte, q_bk0, q_bk1, q_bk2, q_sg_b, q_b_0, q_b_n0, q_b_1, q_b_n1, q_b_T, q_b_F, q_sg_g, q_sg_sg, q_sg_xs, q_sg_id, q_gu_ne, q_gu_eq, q_g_fne, q_g_cpe, q_w_f, q_v_f, q_u_f, q_fn_f, q_cp_f, q_sg_pg, q_sg_hc, q_lt_t, q_lt_f, q_le_t, q_le_f, q_eq_t, q_eq_f, ne_eq, eq_self, Bool.false_eq_true, Bool.true_eq_false, not_true_eq_false, not_false_eq_true, true_and, and_true, false_and, and_false, true_or, or_true, false_or, or_false, if_true, if_false, Int.reduceAdd, Int.reduceMul, Int.reduceSub, Int.reduceNeg, p1, p2, t1, R_286_43, C_286_44, R_286_47, R_286_54, C_286_57, R_286_60, R_286_67]
        · subst w3
          simp (disch := first | omega | exact q_b_01 _) only [↓reduceIte, q_bk0, q_bk1, q_bk2, q_sg_b, q_b_0, q_b_n0, q_b_1, q_b_n1, q_b_T, q_b_F, q_sg_g, q_sg_sg, q_sg_xs, q_sg_id, q_gu_ne, q_gu_eq, q_g_fne, q_g_cpe, q_w_f, q_v_f, q_u_f, q_fn_f, q_cp_f, q_sg_pg, q_sg_hc, q_lt_t, q_lt_f, q_le_t, q_le_f, q_eq_t, q_eq_f, ne_eq, eq_self, Bool.false_eq_true, Bool.true_eq_false, not_true_eq_false, not_false_eq_true, true_and, and_true, false_and, and_false, true_or, or_true, false_or, or_false, if_true, if_false, Int.reduceAdd, Int.reduceMul, Int.reduceSub, Int.reduceNeg, p1, p2, t1, R_286_43, C_286_44, R_286_47, R_286_54, C_286_57, R_286_60, R_286_63]
      · rw [q_u_n (by omega), t5 k z h1 (by omega) (by omega), p4 k z (by omega) (by omega), f6 k z (by omega) (by omega) (by omega) (by omega)]
end TC2
