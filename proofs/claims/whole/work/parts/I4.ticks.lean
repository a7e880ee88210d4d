/-! TICKS, of both -/
section TKS
variable {d L : Nat} {xs : Nat → Int32} {s s' u v : Nat → Int → Int32} {O : Nat → Int64} {c : Bool × Nat × Nat} {m : Int → Int} {b n a i : Int}
theorem ticksL (n1 : n ≤ 60) : ∀ (f : Nat) (i a b : Int) (m : Int → Int) (s s' : Nat → Int → Int32), n - i = f → 0 ≤ i → 0 ≤ a → a ≤ i → Inv m b → b + f < 2147483647 → RB m s 7 → LawP m (q_g s 49) (q_g s 50) (q_g s 51) (q_g s 52) (q_g s 53) → q_g s' 286 = m → ∃ u ans, EV (d + 16) 193 4 [.ref 1, .int (q_I (n)), .int (q_I (a)), .int (q_I (i))] [] (q_h L xs s O c) = some (.inl (some (.int (q_I (ans)))), q_h L xs (u) O c) ∧ (0 ≤ ans ∧ ans ≤ 60) ∧ TkF s u ∧ ∀ (v : Nat → Int → Int32) (d : Nat) (O : Nat → Int64) (c : Bool × Nat × Nat), q_g v 286 = m → ∃ t, EV (d + 39) 287 4 [.ref 285, .int (q_I (n)), .int (q_I (a)), .int (q_I (i))] [] (q_h L xs (v) O c) = some (.inl (some (.int (q_I (ans)))), q_h L xs (t) O c) ∧ RB (q_g t 286) u 7 ∧ Inv (q_g t 286) (b + f) ∧ (∀ z, z < 0 ∨ z = 0 ∨ z = 1 ∨ z = 2 ∨ z = 3 ∨ 1049 ≤ z → q_g t 286 z = m z) ∧ PsF v t
  | 0, i, a, b, m, s, s', hf, i0, a0, a1, I, hb, H, hL, em => by
    refine ⟨s, a, ?_, by omega, fun _ _ _ _ _ _ _ => rfl, fun v d O c ev => ⟨v, ?_, by rw [ev]; exact H, by rw [ev]; exact Inv_mono I (by omega), fun z _ => by rw [ev], fun _ _ _ _ _ => rfl⟩⟩
    · rw [R_193_4]
      simp (disch := first | omega | exact q_b_01 _) only [↓reduceIte, q_bk0, q_bk1, q_bk2, q_sg_b, q_b_0, q_b_n0, q_b_1, q_b_n1, q_b_T, q_b_F, q_sg_g, q_sg_sg, q_sg_xs, q_sg_id, q_gu_ne, q_gu_eq, q_g_fne, q_g_cpe, q_w_f, q_v_f, q_u_f, q_fn_f, q_cp_f, q_sg_pg, q_sg_hc, q_lt_t, q_lt_f, q_le_t, q_le_f, q_eq_t, q_eq_f, ne_eq, eq_self, Bool.false_eq_true, Bool.true_eq_false, not_true_eq_false, not_false_eq_true, true_and, and_true, false_and, and_false, true_or, or_true, false_or, or_false, if_true, if_false, Int.reduceAdd, Int.reduceMul, Int.reduceSub, Int.reduceNeg, R_193_135]
    · rw [R_287_4]
      simp (disch := first | omega | exact q_b_01 _) only [↓reduceIte, q_bk0, q_bk1, q_bk2, q_sg_b, q_b_0, q_b_n0, q_b_1, q_b_n1, q_b_T, q_b_F, q_sg_g, q_sg_sg, q_sg_xs, q_sg_id, q_gu_ne, q_gu_eq, q_g_fne, q_g_cpe, q_w_f, q_v_f, q_u_f, q_fn_f, q_cp_f, q_sg_pg, q_sg_hc, q_lt_t, q_lt_f, q_le_t, q_le_f, q_eq_t, q_eq_f, ne_eq, eq_self, Bool.false_eq_true, Bool.true_eq_false, not_true_eq_false, not_false_eq_true, true_and, and_true, false_and, and_false, true_or, or_true, false_or, or_false, if_true, if_false, Int.reduceAdd, Int.reduceMul, Int.reduceSub, Int.reduceNeg, R_287_30]
  | f + 1, i, a, b, m, s, s', hf, i0, a0, a1, I, hb, H, hL, em => by
    obtain ⟨u1, an, c1, c2, c3, c4⟩ := one_tick (d := d) (L := L) (xs := xs) (s := s) (O := O) (c := c) (n := n) (a := a) (i := i) I (by omega) H hL em i0 (by omega) n1 a0 (by omega)
    have LW : ∀ m1 : Int → Int, (∀ z, z < 0 ∨ z = 0 ∨ z = 1 ∨ z = 2 ∨ z = 3 ∨ 1049 ≤ z → m1 z = m z) → LawP m1 (q_g u1 49) (q_g u1 50) (q_g u1 51) (q_g u1 52) (q_g u1 53) := fun m1 h => LawP_sm (LawP_ext hL (fun z hz => h z (by omega))) (fun k z h1 h2 => c3 k z (by omega) (by omega) (by omega) (by omega) (by omega))
    -- a run of the reference, for the class
    obtain ⟨t0, -, t02, t03, t04, -⟩ := c4 s' 0 O c em
    obtain ⟨u, ans, g1, g2, g3, -⟩ := ticksL n1 f (i + 1) (a + an) (b + 1) (q_g t0 286) u1 t0 (by omega) (by omega) (by omega) (by omega) t03 (by omega) t02 (LW _ t04) rfl
    refine ⟨u, ans, c1.trans g1, g2, fun k z h1 h2 h3 h4 h5 => by rw [g3 k z h1 h2 h3 h4 h5, c3 k z h1 h2 h3 h4 h5], fun v d' O' c' ev => ?_⟩
    obtain ⟨t1, e1, e2, e3, e4, e5⟩ := c4 v d' O' c' ev
    obtain ⟨u', ans', g1', g2', g3', g4'⟩ := ticksL n1 f (i + 1) (a + an) (b + 1) (q_g t1 286) u1 t1 (by omega) (by omega) (by omega) (by omega) e3 (by omega) e2 (LW _ e4) rfl
    have eq := Option.some.inj (g1.symm.trans g1')
    have eh := (Prod.mk.inj eq).2
    have ea := Value.int.inj (Option.some.inj (Sum.inl.inj (Prod.mk.inj eq).1))
    have ea : q_sg ans = q_sg ans' := congrArg Int32.toInt ea
    rw [q_sg_id (by omega) (by omega), q_sg_id (by omega) (by omega)] at ea
    subst ea
    obtain ⟨t, h1, h2, h3, h4, h5⟩ := g4' t1 d' O' c' rfl
    refine ⟨t, ?_, ?_, Inv_mono h3 (by omega), fun z hz => by rw [h4 z hz, e4 z hz], fun k z k1 k2 k3 => by rw [h5 k z k1 k2 k3, e5 k z k1 k2 k3]⟩
    · rw [← h1, R_287_4]
      rcases c2 with c2 | c2
      · subst c2
        simp (disch := first | omega | exact q_b_01 _) only [↓reduceIte, q_bk0, q_bk1, q_bk2, q_sg_b, q_b_0, q_b_n0, q_b_1, q_b_n1, q_b_T, q_b_F, q_sg_g, q_sg_sg, q_sg_xs, q_sg_id, q_gu_ne, q_gu_eq, q_g_fne, q_g_cpe, q_w_f, q_v_f, q_u_f, q_fn_f, q_cp_f, q_sg_pg, q_sg_hc, q_lt_t, q_lt_f, q_le_t, q_le_f, q_eq_t, q_eq_f, ne_eq, eq_self, Bool.false_eq_true, Bool.true_eq_false, not_true_eq_false, not_false_eq_true, true_and, and_true, false_and, and_false, true_or, or_true, false_or, or_false, if_true, if_false, Int.reduceAdd, Int.reduceMul, Int.reduceSub, Int.reduceNeg, e1, R_287_9, C_287_11, R_287_14, R_287_21, R_287_22]
      · subst c2
        simp (disch := first | omega | exact q_b_01 _) only [↓reduceIte, q_bk0, q_bk1, q_bk2, q_sg_b, q_b_0, q_b_n0, q_b_1, q_b_n1, q_b_T, q_b_F, q_sg_g, q_sg_sg, q_sg_xs, q_sg_id, q_gu_ne, q_gu_eq, q_g_fne, q_g_cpe, q_w_f, q_v_f, q_u_f, q_fn_f, q_cp_f, q_sg_pg, q_sg_hc, q_lt_t, q_lt_f, q_le_t, q_le_f, q_eq_t, q_eq_f, ne_eq, eq_self, Bool.false_eq_true, Bool.true_eq_false, not_true_eq_false, not_false_eq_true, true_and, and_true, false_and, and_false, true_or, or_true, false_or, or_false, if_true, if_false, Int.reduceAdd, Int.reduceMul, Int.reduceSub, Int.reduceNeg, e1, R_287_9, C_287_11, R_287_14, R_287_17, R_287_22]
    · exact RB_heap eh h2 (fun q q0 q1 => (inv_rows h3 q q0 q1).2) h3.2.1.2.1 h3.2.2.1.2.2.2.2.2.2.2.2.2
/-- runTicks and goes -/
theorem both_ticks (n0 : 0 ≤ n) (n1 : n ≤ 60) (I : Inv m b) (hb : b + 60 < 2147483647) (H : RB m s 7) (hL : LawP m (q_g s 49) (q_g s 50) (q_g s 51) (q_g s 52) (q_g s 53)) (em : q_g s' 286 = m) : ∃ u ans, EV (d + 16) 193 0 [.ref 1, .int (q_I (n)), .null, .null] [] (q_h L xs s O c) = some (.inl (some (.int (q_I (ans)))), q_h L xs (u) O c) ∧ (0 ≤ ans ∧ ans ≤ 60) ∧ TkF s u ∧ ∀ (v : Nat → Int → Int32) (d : Nat) (O : Nat → Int64) (c : Bool × Nat × Nat), q_g v 286 = m → ∃ t, EV (d + 39) 287 0 [.ref 285, .int (q_I (n)), .null, .null] [] (q_h L xs (v) O c) = some (.inl (some (.int (q_I (ans)))), q_h L xs (t) O c) ∧ RB (q_g t 286) u 7 ∧ Inv (q_g t 286) (b + 60) ∧ (∀ z, z < 0 ∨ z = 0 ∨ z = 1 ∨ z = 2 ∨ z = 3 ∨ 1049 ≤ z → q_g t 286 z = m z) ∧ PsF v t := by
  obtain ⟨u, ans, g1, g2, g3, g4⟩ := ticksL (d := d) (L := L) (xs := xs) (O := O) (c := c) n1 n.toNat 0 0 b m s s' (by omega) (by omega) (by omega) (by omega) I (by omega) H hL em
  refine ⟨u, ans, ?_, g2, g3, fun v d O c ev => ?_⟩
  · rw [R_193_0]
    exact g1
  · obtain ⟨t, h1, h2, h3, h4, h5⟩ := g4 v d O c ev
    refine ⟨t, ?_, h2, Inv_mono h3 (by omega), h4, h5⟩
    rw [R_287_0]
    exact h1
theorem op_ticks (B : Big b s) (hb : b + 60 < 2147483647) {n : Int} (v1' : -2147483648 ≤ n) (v2' : n < 2147483648) : Op (Big (b + 60)) (fun h => EV (d + 40) 8 0 [.ref 1, .int (q_I (n)), .ref 312, .null] [] h) (fun h => EV (d + 40) 304 0 [.ref 285, .int (q_I (n))] [] h) L xs s O c := by
  by_cases hn : 1 ≤ n ∧ n ≤ 60
  · have rx : ∀ k z, k < 71 ∨ 240 < k → rmC s k z = s k z := fun k z h => rmC_x B h
    have rem := cc_rem (d := d + 35) (L := L) (xs := xs) (O := O) (c := c) B
    obtain ⟨u, ans, g1, g2, g3, g4⟩ := both_ticks (d := d + 22) (L := L) (xs := xs) (s := rmC s) (s' := s) (O := O) (c := c) (n := n) (by omega) (by omega) B.1.2.1 hb (rb_k B.1.1 (fun k z h1 h2 => rx k z (by omega))) (LawP_sm B.1.2.2 (fun k z h1 h2 => rx k z (by omega))) rfl
    obtain ⟨t, t1, t2, t3, t4, t5⟩ := act_mm2 (d := d + 39) (L := L) (xs := xs) (O := vp_updL O 0 (q_I ans).toInt64) (c := c) B (s2 := u) (fun k z hz hk => by
      unfold relz relc at hz
      rw [g3 k z hk (by omega) (by omega) (by omega) (by omega)])
    obtain ⟨w, w1, w2, w3, w4, w5⟩ := g4 t d (vp_updL O 0 (q_I ans).toInt64) c (funext t2)
    have g0 : q_g (q_u u 285 0 0) 285 0 = 0 := by rw [q_gu_eq rfl]; rfl
    refine ⟨0, ans, u, w, vp_updL O 0 (q_I ans).toInt64, c, ?_, ?_, by omega, by omega, ?_, fun _ => rfl, Or.inl rfl, ?_⟩
    · simp (disch := first | omega | exact q_b_01 _) only [↓reduceIte, q_bk0, q_bk1, q_bk2, q_sg_b, q_b_0, q_b_n0, q_b_1, q_b_n1, q_b_T, q_b_F, q_sg_g, q_sg_sg, q_sg_xs, q_sg_id, q_gu_ne, q_gu_eq, q_g_fne, q_g_cpe, q_w_f, q_v_f, q_u_f, q_fn_f, q_cp_f, q_sg_pg, q_sg_hc, q_lt_t, q_lt_f, q_le_t, q_le_f, q_eq_t, q_eq_f, ne_eq, eq_self, Bool.false_eq_true, Bool.true_eq_false, not_true_eq_false, not_false_eq_true, true_and, and_true, false_and, and_false, true_or, or_true, false_or, or_false, if_true, if_false, Int.reduceAdd, Int.reduceMul, Int.reduceSub, Int.reduceNeg, rem, g1, R_8_0, R_8_7, R_8_9, R_8_13, C_8_4, R_146_0, R_146_5, R_146_11, R_146_19, R_146_30, R_146_35, C_146_27, C_146_32, q_lst, K_8_0]
    · simp (disch := first | omega | exact q_b_01 _) only [↓reduceIte, q_bk0, q_bk1, q_bk2, q_sg_b, q_b_0, q_b_n0, q_b_1, q_b_n1, q_b_T, q_b_F, q_sg_g, q_sg_sg, q_sg_xs, q_sg_id, q_gu_ne, q_gu_eq, q_g_fne, q_g_cpe, q_w_f, q_v_f, q_u_f, q_fn_f, q_cp_f, q_sg_pg, q_sg_hc, q_lt_t, q_lt_f, q_le_t, q_le_f, q_eq_t, q_eq_f, ne_eq, eq_self, Bool.false_eq_true, Bool.true_eq_false, not_true_eq_false, not_false_eq_true, true_and, and_true, false_and, and_false, true_or, or_true, false_or, or_false, if_true, if_false, Int.reduceAdd, Int.reduceMul, Int.reduceSub, Int.reduceNeg, hn, g0, t1, w1, R_304_0, R_304_8, R_304_11, R_304_15, R_304_16, R_304_19, R_304_26, R_304_28, R_304_32, R_304_37, C_304_5, C_304_29, C_304_34, mm_isIn]
    · show (w 285 0).toInt = 0
      rw [w5 285 0 (by omega) (by omega) (by omega)]
      exact t4
    · refine t5 w (b + 60) (by omega) (fun k z hz hk => ?_) (fun z hz => w4 z (by omega)) (rb_k w2 (fun k z h1 h2 => ?_)) w3
      · unfold relz relc at hz
        rw [w5 k z hk (by omega) (by omega)]
      · rw [w5 k z (by omega) (by omega) (by omega), t3 k z (by omega) (by omega)]
  · refine ⟨1, 0, s, q_u s 285 0 1, O, q_th c, ?_, ?_, by omega, by omega, by rw [q_gu_eq rfl]; rfl, by omega, Or.inr rfl, Big_mono (Big_sm B (Sm_u Sm_rfl (by unfold relz relc; omega))) (by omega)⟩
    · by_cases h2 : n < 1
      · simp (disch := first | omega | exact q_b_01 _) only [↓reduceIte, q_bk0, q_bk1, q_bk2, q_sg_b, q_b_0, q_b_n0, q_b_1, q_b_n1, q_b_T, q_b_F, q_sg_g, q_sg_sg, q_sg_xs, q_sg_id, q_gu_ne, q_gu_eq, q_g_fne, q_g_cpe, q_w_f, q_v_f, q_u_f, q_fn_f, q_cp_f, q_sg_pg, q_sg_hc, q_lt_t, q_lt_f, q_le_t, q_le_f, q_eq_t, q_eq_f, ne_eq, eq_self, Bool.false_eq_true, Bool.true_eq_false, not_true_eq_false, not_false_eq_true, true_and, and_true, false_and, and_false, true_or, or_true, false_or, or_false, if_true, if_false, Int.reduceAdd, Int.reduceMul, Int.reduceSub, Int.reduceNeg, R_8_0, R_8_7, R_8_9, R_8_13, C_8_4, R_146_0, R_146_5, R_146_11, R_146_19, R_146_30, R_146_35, C_146_27, C_146_32, K_8_0]
      · simp (disch := first | omega | exact q_b_01 _) only [↓reduceIte, q_bk0, q_bk1, q_bk2, q_sg_b, q_b_0, q_b_n0, q_b_1, q_b_n1, q_b_T, q_b_F, q_sg_g, q_sg_sg, q_sg_xs, q_sg_id, q_gu_ne, q_gu_eq, q_g_fne, q_g_cpe, q_w_f, q_v_f, q_u_f, q_fn_f, q_cp_f, q_sg_pg, q_sg_hc, q_lt_t, q_lt_f, q_le_t, q_le_f, q_eq_t, q_eq_f, ne_eq, eq_self, Bool.false_eq_true, Bool.true_eq_false, not_true_eq_false, not_false_eq_true, true_and, and_true, false_and, and_false, true_or, or_true, false_or, or_false, if_true, if_false, Int.reduceAdd, Int.reduceMul, Int.reduceSub, Int.reduceNeg, R_8_0, R_8_7, R_8_9, R_8_13, C_8_4, R_146_0, R_146_5, R_146_11, R_146_19, R_146_30, R_146_35, C_146_27, C_146_32, K_8_0]
    · have g1 : ¬ q_g (q_u s 285 0 1) 285 0 = 0 := by
        rw [q_gu_eq rfl]
        decide
      simp (disch := first | omega | exact q_b_01 _) only [↓reduceIte, q_bk0, q_bk1, q_bk2, q_sg_b, q_b_0, q_b_n0, q_b_1, q_b_n1, q_b_T, q_b_F, q_sg_g, q_sg_sg, q_sg_xs, q_sg_id, q_gu_ne, q_gu_eq, q_g_fne, q_g_cpe, q_w_f, q_v_f, q_u_f, q_fn_f, q_cp_f, q_sg_pg, q_sg_hc, q_lt_t, q_lt_f, q_le_t, q_le_f, q_eq_t, q_eq_f, ne_eq, eq_self, Bool.false_eq_true, Bool.true_eq_false, not_true_eq_false, not_false_eq_true, true_and, and_true, false_and, and_false, true_or, or_true, false_or, or_false, if_true, if_false, Int.reduceAdd, Int.reduceMul, Int.reduceSub, Int.reduceNeg, hn, g1, R_304_0, R_304_8, R_304_11, R_304_15, R_304_16, R_304_19, R_304_26, R_304_28, R_304_32, R_304_37, C_304_5, C_304_29, C_304_34, mm_isIn]
end TKS
