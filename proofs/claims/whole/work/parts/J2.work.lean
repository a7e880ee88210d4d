/-! WORK, of both -/
section WRK
variable {d L : Nat} {xs : Nat → Int32} {s g u v : Nat → Int → Int32} {O : Nat → Int64} {c : Bool × Nat × Nat} {m T : Int → Int} {b E : Int}
noncomputable def WF (m : Int → Int) (g v : Nat → Int → Int32) : Prop := q_g v 285 8 = 0 ∧ (∀ z, 0 ≤ z → z < 1049 → q_g v 288 z = m z) ∧ ∀ k z, ¬ (k = 285 ∧ (8 ≤ z ∧ z ≤ 13 ∨ z = 19)) → k ≠ 292 → k ≠ 293 → k ≠ 288 → ¬ (k = 286 ∧ (z = 3 ∨ z = 5)) → v k z = g k z
theorem mm_wpre (H : TX T E) (hg : q_g g 286 = m) (h8 : q_g g 285 8 = E) (hT : ∀ j, 0 ≤ j → j < E → q_g g 290 j = T j) : (∀ e, wAll T E = .inl e → ∃ v n', EV (d + 40) 243 0 [.ref 285, .null, .null] [] (q_h L xs (g) O c) = EV (d + 40) 243 18 [.ref 285, .null, .null] [.int (q_I (n'))] (q_h L xs (v) O c) ∧ q_g v 285 12 = e ∧ 0 ≤ e ∧ WF m g v) ∧ ∀ w, wAll T E = .inr w → ∃ v n', EV (d + 40) 243 0 [.ref 285, .null, .null] [] (q_h L xs (g) O c) = EV (d + 40) 243 18 [.ref 285, .null, .null] [.int (q_I (n'))] (q_h L xs (v) O c) ∧ q_g v 285 12 = -1 ∧ MW (m 3) (m 5) w v ∧ WF m g v := by
  have pa := mm_aside (d := d + 39) (L := L) (xs := xs) (s := g) (O := O) (c := c)
  rw [hg] at pa
  generalize hA : q_fn g 288 0 1049 (q_g g 286) = A
  rw [hg] at hA
  rw [hA] at pa
  have A8 : ∀ z, 0 ≤ z → z < 1049 → q_g A 288 z = m z := fun z z0 z1 => by
    rw [← hA, q_g_fn, if_pos ⟨rfl, z0, z1⟩, ← hg]
    exact q_sg_g g 286 z
  have fA : ∀ k z, k ≠ 288 → A k z = g k z := fun k z h1 => by rw [← hA, q_fn_n (by omega)]
  have gA : ∀ k z, k ≠ 288 → q_g A k z = q_g g k z := fun k z h1 => by
    show (A k z).toInt = _
    rw [fA k z h1]
    rfl
  have ms : MS T E (bs T E 0) (bgn (q_u A 285 19 0)) := bgn_MS H (by rw [q_gu_ne (by omega), gA 285 8 (by omega), h8]) (fun j j0 j1 => by rw [q_gu_ne (by omega), gA 290 j (by omega), hT j j0 j1])
  have bg := mm_begins (d := d + 39) (L := L) (xs := xs) (s := q_u A 285 19 0) (O := O) (c := c)
  have gb : ∀ k z, ¬ (k = 285 ∧ (8 ≤ z ∧ z ≤ 13)) → ¬ (k = 285 ∧ z = 19) → q_g (bgn (q_u A 285 19 0)) k z = q_g A k z := fun k z h1 h2 => by rw [bgn_g h1, q_gu_ne (by omega)]
  have mw : MW (m 3) (m 5) w0 (bgn (q_u A 285 19 0)) := by
    refine ⟨?_, Int.le_refl _, by show (0 : Int) ≤ 12; omega, fun k k0 k1 => ?_, ?_, ?_⟩
    · rw [bgn_g (by omega), q_gu_eq rfl]
      rfl
    · have : k < 0 := k1
      omega
    · show _ = if (-1 : Int) = -1 then m 3 else -1
      rw [if_pos rfl, gb 286 3 (by omega) (by omega), gA 286 3 (by omega), hg]
    · show _ = if (-1 : Int) = -1 then m 5 else -1
      rw [if_pos rfl, gb 286 5 (by omega) (by omega), gA 286 5 (by omega), hg]
  have b8 : q_g (bgn (q_u A 285 19 0)) 285 8 = 0 := bgn_8
  have fb : ∀ k z, ¬ (k = 285 ∧ (8 ≤ z ∧ z ≤ 13 ∨ z = 19)) → bgn (q_u A 285 19 0) k z = A k z := fun k z h1 => by rw [bgn_n (by omega), q_u_n (by omega)]
  generalize hG : bgn (q_u A 285 19 0) = G at *
  obtain ⟨r1, r2⟩ := mm_reads0 (d := d + 28) (L := L) (xs := xs) (O := O) (c := c) H ms mw
  have wf : ∀ {v : Nat → Int → Int32}, FC G v → WF m g v := fun {v} h => by
    refine ⟨?_, fun z z0 z1 => ?_, fun k z h1 h2 h3 h4 h5 => by rw [h k z (by omega) h2 h3 h5, fb k z h1, fA k z h4]⟩
    · show (v 285 8).toInt = 0
      rw [h 285 8 (by omega) (by omega) (by omega) (by omega)]
      exact b8
    · rw [← A8 z z0 z1]
      show (v 288 z).toInt = _
      rw [h 288 z (by omega) (by omega) (by omega) (by omega), fb 288 z (by omega)]
      rfl
  refine ⟨fun e he => ?_, fun w hw => ?_⟩
  · obtain ⟨v, n', v1, v2, v3⟩ := r1 e he
    refine ⟨v, n', ?_, v2.2.1, v2.2.2.1, wf v3⟩
    simp (disch := first | omega | exact q_b_01 _) only [↓reduceIte, q_bk0, q_bk1, q_bk2, q_sg_b, q_b_0, q_b_n0, q_b_1, q_b_n1, q_b_T, q_b_F, q_sg_g, q_sg_sg, q_sg_xs, q_sg_id, q_gu_ne, q_gu_eq, q_g_fne, q_g_cpe, q_w_f, q_v_f, q_u_f, q_fn_f, q_cp_f, q_sg_pg, q_sg_hc, q_lt_t, q_lt_f, q_le_t, q_le_f, q_eq_t, q_eq_f, ne_eq, eq_self, Bool.false_eq_true, Bool.true_eq_false, not_true_eq_false, not_false_eq_true, true_and, and_true, false_and, and_false, true_or, or_true, false_or, or_false, if_true, if_false, Int.reduceAdd, Int.reduceMul, Int.reduceSub, Int.reduceNeg, pa, bg, hG, v1, R_243_0, C_243_1, R_243_4, R_243_9, C_243_10, R_243_13, C_243_15]
  · obtain ⟨v, n', v1, v2, v3, v4⟩ := r2 w hw
    refine ⟨v, n', ?_, v2, v3, wf v4⟩
    simp (disch := first | omega | exact q_b_01 _) only [↓reduceIte, q_bk0, q_bk1, q_bk2, q_sg_b, q_b_0, q_b_n0, q_b_1, q_b_n1, q_b_T, q_b_F, q_sg_g, q_sg_sg, q_sg_xs, q_sg_id, q_gu_ne, q_gu_eq, q_g_fne, q_g_cpe, q_w_f, q_v_f, q_u_f, q_fn_f, q_cp_f, q_sg_pg, q_sg_hc, q_lt_t, q_lt_f, q_le_t, q_le_f, q_eq_t, q_eq_f, ne_eq, eq_self, Bool.false_eq_true, Bool.true_eq_false, not_true_eq_false, not_false_eq_true, true_and, and_true, false_and, and_false, true_or, or_true, false_or, or_false, if_true, if_false, Int.reduceAdd, Int.reduceMul, Int.reduceSub, Int.reduceNeg, pa, bg, hG, v1, R_243_0, C_243_1, R_243_4, R_243_9, C_243_10, R_243_13, C_243_15]
theorem mm_wback {x n' : Int} (h0 : q_g v 285 0 = x) (x0 : 0 < x) (x1 : x < 9) : EV (d + 1) 243 78 [.ref 285, .int (q_I (n')), .null] [] (q_h L xs (v) O c) = some (.inl (some (.int (q_I (0)))), q_h L xs (q_fn v 286 0 1049 (q_g v 288)) O c) := by
  have cb := mm_restore (d := d) (L := L) (xs := xs) (s := v) (O := O) (c := c)
  simp (disch := first | omega | exact q_b_01 _) only [↓reduceIte, q_bk0, q_bk1, q_bk2, q_sg_b, q_b_0, q_b_n0, q_b_1, q_b_n1, q_b_T, q_b_F, q_sg_g, q_sg_sg, q_sg_xs, q_sg_id, q_gu_ne, q_gu_eq, q_g_fne, q_g_cpe, q_w_f, q_v_f, q_u_f, q_fn_f, q_cp_f, q_sg_pg, q_sg_hc, q_lt_t, q_lt_f, q_le_t, q_le_f, q_eq_t, q_eq_f, ne_eq, eq_self, Bool.false_eq_true, Bool.true_eq_false, not_true_eq_false, not_false_eq_true, true_and, and_true, false_and, and_false, true_or, or_true, false_or, or_false, if_true, if_false, Int.reduceAdd, Int.reduceMul, Int.reduceSub, Int.reduceNeg, h0, cb, R_243_78, R_243_85, C_243_86, R_243_89]
/-- what was put aside comes back -/
theorem wback_row (hg : q_g g 286 = m) (h : WF m g v) {x : Int} (fr : ∀ k z, k = 286 ∨ k = 288 → u k z = v k z) : q_g (q_fn u 286 0 1049 (q_g u 288)) 286 = m := by
  funext z
  rw [q_g_fn]
  by_cases e : 0 ≤ z ∧ z < 1049
  · rw [if_pos ⟨rfl, e⟩, q_sg_g, ← h.2.1 z e.1 e.2]
    show (u 288 z).toInt = _
    rw [fr 288 z (by omega)]
    rfl
  · rw [if_neg (by omega), ← hg]
    show (u 286 z).toInt = _
    rw [fr 286 z (by omega), h.2.2 286 z (by omega) (by omega) (by omega) (by omega) (by omega)]
    rfl
theorem cc_wset {r1 k1 r0 k0 : Int} (h4 : q_g u 68 4 = r1) (h5 : q_g u 68 5 = k1) (h6 : q_g u 7 6 = r0) (h8 : q_g u 7 8 = k0) (r11 : -1 ≤ r1) (r12 : r1 ≤ 100) (k11 : -1 ≤ k1) (k12 : k1 ≤ 999) : EV (d) 138 82 [.ref 1] [] (q_h L xs (u) O c) = EV (d) 138 152 [.ref 1] [] (q_h L xs (q_u (q_u u 7 6 (if r1 = -1 then r0 else r1)) 7 8 (if k1 = -1 then k0 else k1)) O c) := by
  by_cases e1 : r1 = -1
  · rw [if_pos e1]
    have g5 : q_g (q_u u 7 6 r0) 68 5 = k1 := by rw [q_gu_ne (by omega), h5]
    have g8 : q_g (q_u u 7 6 r0) 7 8 = k0 := by rw [q_gu_ne (by omega), h8]
    by_cases e2 : k1 = -1
    · rw [if_pos e2]
      simp (disch := first | omega | exact q_b_01 _) only [↓reduceIte, q_bk0, q_bk1, q_bk2, q_sg_b, q_b_0, q_b_n0, q_b_1, q_b_n1, q_b_T, q_b_F, q_sg_g, q_sg_sg, q_sg_xs, q_sg_id, q_gu_ne, q_gu_eq, q_g_fne, q_g_cpe, q_w_f, q_v_f, q_u_f, q_fn_f, q_cp_f, q_sg_pg, q_sg_hc, q_lt_t, q_lt_f, q_le_t, q_le_f, q_eq_t, q_eq_f, ne_eq, eq_self, Bool.false_eq_true, Bool.true_eq_false, not_true_eq_false, not_false_eq_true, true_and, and_true, false_and, and_false, true_or, or_true, false_or, or_false, if_true, if_false, Int.reduceAdd, Int.reduceMul, Int.reduceSub, Int.reduceNeg, h4, h6, g5, g8, e1, e2, R_138_82, R_138_97, R_138_114, R_138_117, R_138_132, R_138_149]
    · rw [if_neg e2]
      simp (disch := first | omega | exact q_b_01 _) only [↓reduceIte, q_bk0, q_bk1, q_bk2, q_sg_b, q_b_0, q_b_n0, q_b_1, q_b_n1, q_b_T, q_b_F, q_sg_g, q_sg_sg, q_sg_xs, q_sg_id, q_gu_ne, q_gu_eq, q_g_fne, q_g_cpe, q_w_f, q_v_f, q_u_f, q_fn_f, q_cp_f, q_sg_pg, q_sg_hc, q_lt_t, q_lt_f, q_le_t, q_le_f, q_eq_t, q_eq_f, ne_eq, eq_self, Bool.false_eq_true, Bool.true_eq_false, not_true_eq_false, not_false_eq_true, true_and, and_true, false_and, and_false, true_or, or_true, false_or, or_false, if_true, if_false, Int.reduceAdd, Int.reduceMul, Int.reduceSub, Int.reduceNeg, h4, h6, g5, g8, e1, R_138_82, R_138_97, R_138_114, R_138_117, R_138_142, R_138_149]
  · rw [if_neg e1]
    have g5 : q_g (q_u u 7 6 r1) 68 5 = k1 := by rw [q_gu_ne (by omega), h5]
    have g8 : q_g (q_u u 7 6 r1) 7 8 = k0 := by rw [q_gu_ne (by omega), h8]
    by_cases e2 : k1 = -1
    · rw [if_pos e2]
      simp (disch := first | omega | exact q_b_01 _) only [↓reduceIte, q_bk0, q_bk1, q_bk2, q_sg_b, q_b_0, q_b_n0, q_b_1, q_b_n1, q_b_T, q_b_F, q_sg_g, q_sg_sg, q_sg_xs, q_sg_id, q_gu_ne, q_gu_eq, q_g_fne, q_g_cpe, q_w_f, q_v_f, q_u_f, q_fn_f, q_cp_f, q_sg_pg, q_sg_hc, q_lt_t, q_lt_f, q_le_t, q_le_f, q_eq_t, q_eq_f, ne_eq, eq_self, Bool.false_eq_true, Bool.true_eq_false, not_true_eq_false, not_false_eq_true, true_and, and_true, false_and, and_false, true_or, or_true, false_or, or_false, if_true, if_false, Int.reduceAdd, Int.reduceMul, Int.reduceSub, Int.reduceNeg, h4, h6, g5, g8, e2, R_138_82, R_138_107, R_138_114, R_138_117, R_138_132, R_138_149]
    · rw [if_neg e2]
      simp (disch := first | omega | exact q_b_01 _) only [↓reduceIte, q_bk0, q_bk1, q_bk2, q_sg_b, q_b_0, q_b_n0, q_b_1, q_b_n1, q_b_T, q_b_F, q_sg_g, q_sg_sg, q_sg_xs, q_sg_id, q_gu_ne, q_gu_eq, q_g_fne, q_g_cpe, q_w_f, q_v_f, q_u_f, q_fn_f, q_cp_f, q_sg_pg, q_sg_hc, q_lt_t, q_lt_f, q_le_t, q_le_f, q_eq_t, q_eq_f, ne_eq, eq_self, Bool.false_eq_true, Bool.true_eq_false, not_true_eq_false, not_false_eq_true, true_and, and_true, false_and, and_false, true_or, or_true, false_or, or_false, if_true, if_false, Int.reduceAdd, Int.reduceMul, Int.reduceSub, Int.reduceNeg, h4, h6, g5, g8, R_138_82, R_138_107, R_138_114, R_138_117, R_138_142, R_138_149]
end WRK
