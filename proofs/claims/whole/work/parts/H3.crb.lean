/-! THE CLASS: draws, costs, power lost, the log -/
section CRB
variable {d L : Nat} {xs : Nat → Int32} {s u : Nat → Int → Int32} {O : Nat → Int64} {c : Bool × Nat × Nat} {m m' : Int → Int} {p : Int}
theorem RB_up2 (H : RB m s 7) (hr : ∀ q, 0 ≤ q → q < 48 → pg m q 1 ≤ 6) (hp : ∀ p w, 0 ≤ p → p < 48 → 0 ≤ w → w < 16 → pg m' p w = pg m p w) (hk : ∀ k, 9 ≤ k → k ≤ 15 → q_g u k = q_g s k) (h3 : ∀ r, 0 ≤ r → r < 4 → q_g u 16 r = m' (9 + 2 * r) ∧ (m' (9 + 2 * r) ≠ -1 → q_g u 17 r = m' (10 + 2 * r)) ∧ (m' (9 + 2 * r) = -1 → q_g u 17 r = -1)) (h4 : q_g u 7 5 = m' 8 ∧ ∀ k, 0 ≤ k → k < m' 8 → q_g u 18 k = m' (17 + 2 * k) ∧ q_g u 19 k = m' (18 + 2 * k)) (h5 : q_g u 7 6 = m' 3 ∧ q_g u 7 7 = m' 4 ∧ q_g u 7 8 = m' 5 ∧ q_g u 7 9 = m' 7 ∧ q_g u 7 10 = m' 0 ∧ q_g u 7 12 = m' 6) (h6 : (0 ≤ q_g u 7 13 ∧ q_g u 7 13 < 60) ∧ ∀ a w, 0 ≤ a → a < m' 6 → 0 ≤ w → w < 4 → q_g u 20 (((q_g u 7 13 - 1 - a) % 60) * 4 + w) = m' (41 + 4 * a + w)) : RB m' u 7 := by
  obtain ⟨h1, h2, -, -, -, -, -⟩ := H
  refine ⟨fun q q0 q1 => ?_, fun h hh0 hh1 hk' w w0 w1 => ?_, h3, h4, h5, h6.1, h6.2⟩
  · obtain ⟨a1, a2, a3, a4, a5⟩ := h1 q q0 q1
    have r := hr q q0 q1
    refine ⟨?_, ?_, ?_, ?_, fun k k0 k1 => ?_⟩
    · rw [hk 9 (by omega) (by omega), hp q 0 q0 q1 (by omega) (by omega)]
      exact a1
    · rw [hk 10 (by omega) (by omega), hp q 1 q0 q1 (by omega) (by omega)]
      exact a2
    · rw [hk 11 (by omega) (by omega), hp q 2 q0 q1 (by omega) (by omega)]
      exact a3
    · rw [hk 12 (by omega) (by omega), hp q 3 q0 q1 (by omega) (by omega)]
      exact a4
    · rw [hp q 1 q0 q1 (by omega) (by omega)] at k1
      rw [hk 13 (by omega) (by omega), hk 14 (by omega) (by omega), hp q (4 + k) q0 q1 (by omega) (by omega), hp q (10 + k) q0 q1 (by omega) (by omega)]
      exact a5 k k0 k1
  · rw [hp h 0 hh0 (by omega) (by omega) (by omega)] at hk'
    rw [hk 15 (by omega) (by omega), hp h (4 + w) hh0 (by omega) (by omega) (by omega)]
    exact h2 h hh0 hh1 hk' w w0 w1
theorem cc_draw : EV (d) 106 0 [.ref 7] [] (q_h L xs s O c) = some (.inl (some (.int (q_I (drw (sdn (q_g s 7 9)))))), q_h L xs (q_u s 7 9 (1103515245 * q_g s 7 9 + 12345)) O c) := by
  have g : q_g (q_u s 7 9 (1103515245 * q_g s 7 9 + 12345)) 7 9 = sdn (q_g s 7 9) := q_gu_eq rfl
  rw [R_106_0, R_106_15, g]
  rfl
theorem RB_seed (H : RB m s 7) (hr : ∀ q, 0 ≤ q → q < 48 → pg m q 1 ≤ 6) (h8 : m 8 ≤ 12) {v : Int} : RB (up m 7 (q_sg v)) (q_u s 7 9 v) 7 := by
  refine RB_up2 H hr (fun p w p0 p1 w0 w1 => up_ne (by omega)) (fun k k0 k1 => q_u_f (by omega)) (fun r r0 r1 => ?_) ⟨?_, fun k k0 k1 => ?_⟩ ⟨?_, ?_, ?_, ?_, ?_, ?_⟩ ⟨?_, fun a w a0 a1 w0 w1 => ?_⟩
  · rw [up_ne (by omega), up_ne (by omega), q_gu_ne (by omega), q_gu_ne (by omega)]
    exact H.2.2.1 r r0 r1
  · rw [up_ne (by omega), q_gu_ne (by omega)]
    exact rb_chg H
  · rw [up_ne (by omega)] at k1
    rw [up_ne (by omega), up_ne (by omega), q_gu_ne (by omega), q_gu_ne (by omega)]
    exact ⟨rb_ck H k0 k1, rb_cv H k0 k1⟩
  · rw [up_ne (by omega), q_gu_ne (by omega)]
    exact rb_risk H
  · rw [up_ne (by omega), q_gu_ne (by omega)]
    exact rb_cost H
  · rw [up_ne (by omega), q_gu_ne (by omega)]
    exact rb_tick H
  · rw [up_eq rfl, q_gu_eq rfl]
  · rw [up_ne (by omega), q_gu_ne (by omega)]
    exact rb_texts H
  · rw [up_ne (by omega), q_gu_ne (by omega)]
    exact rb_logn H
  · rw [q_gu_ne (by omega)]
    exact rb_lnx H
  · rw [up_ne (by omega)] at a1
    rw [up_ne (by omega), q_gu_ne (by omega), q_gu_ne (by omega)]
    exact rb_log H a0 a1 w0 w1
theorem RB_cost (H : RB m s 7) (hr : ∀ q, 0 ≤ q → q < 48 → pg m q 1 ≤ 6) (h8 : m 8 ≤ 12) {v : Int} (v0 : 0 ≤ v) (v1 : v ≤ 99999) : RB (up m 4 v) (q_u s 7 7 v) 7 := by
  refine RB_up2 H hr (fun p w p0 p1 w0 w1 => up_ne (by omega)) (fun k k0 k1 => q_u_f (by omega)) (fun r r0 r1 => ?_) ⟨?_, fun k k0 k1 => ?_⟩ ⟨?_, ?_, ?_, ?_, ?_, ?_⟩ ⟨?_, fun a w a0 a1 w0 w1 => ?_⟩
  · rw [up_ne (by omega), up_ne (by omega), q_gu_ne (by omega), q_gu_ne (by omega)]
    exact H.2.2.1 r r0 r1
  · rw [up_ne (by omega), q_gu_ne (by omega)]
    exact rb_chg H
  · rw [up_ne (by omega)] at k1
    rw [up_ne (by omega), up_ne (by omega), q_gu_ne (by omega), q_gu_ne (by omega)]
    exact ⟨rb_ck H k0 k1, rb_cv H k0 k1⟩
  · rw [up_ne (by omega), q_gu_ne (by omega)]
    exact rb_risk H
  · rw [up_eq rfl, q_gu_eq rfl, q_sg_id (by omega) (by omega)]
  · rw [up_ne (by omega), q_gu_ne (by omega)]
    exact rb_tick H
  · rw [up_ne (by omega), q_gu_ne (by omega)]
    exact rb_seed H
  · rw [up_ne (by omega), q_gu_ne (by omega)]
    exact rb_texts H
  · rw [up_ne (by omega), q_gu_ne (by omega)]
    exact rb_logn H
  · rw [q_gu_ne (by omega)]
    exact rb_lnx H
  · rw [up_ne (by omega)] at a1
    rw [up_ne (by omega), q_gu_ne (by omega), q_gu_ne (by omega)]
    exact rb_log H a0 a1 w0 w1
theorem cc_tear (H : RB m s 7) (hr : ∀ q, 0 ≤ q → q < 48 → 0 ≤ pg m q 1 ∧ pg m q 1 ≤ 6) (h8 : m 8 ≤ 12) (h6 : m 6 ≤ 60) (p0 : 0 ≤ p) (p1 : p < 48) (w0 : 0 ≤ pg m p 2) (w1 : pg m p 2 ≤ 9999) : ∃ u, EV (d + 1) 39 0 [.ref 8, .int (q_I (p)), .int (q_I (5))] [] (q_h L xs s O c) = some (.inl none, q_h L xs (u) O c) ∧ RB (trp p m) u 7 ∧ PgF s p u := by
  have ew : q_g s 11 p = pg m p 2 := rb_wear H p0 p1
  have wi := cc_wipe (d := d) (L := L) (xs := xs) (s := s) (O := O) (c := c) (kind := 5) p0 p1 (by omega) (by omega)
  have mr := mn_rg (a := 9999) (c := q_g s 11 p + 1) (by omega) (by omega)
  refine ⟨_, wi, ?_, fun k z a1 a2 a3 => by rw [q_u_n (by omega), q_u_n (by omega), q_u_n (by omega), q_u_n (by omega)]⟩
  have e0 : pg (trp p m) p 0 = 5 := by
    unfold pg trp
    rw [if_pos (by omega), if_neg (by omega), if_pos (by omega)]
  have e1 : pg (trp p m) p 1 = 0 := by
    unfold pg trp
    rw [if_pos (by omega), if_neg (by omega), if_neg (by omega), if_neg (by omega)]
  have e2 : pg (trp p m) p 2 = mn 9999 (pg m p 2 + 1) := by
    unfold pg trp
    rw [if_pos (by omega), if_pos (by omega)]
  have e3 : pg (trp p m) p 3 = -1 := by
    unfold pg trp
    rw [if_pos (by omega), if_neg (by omega), if_neg (by omega), if_pos (by omega)]
  refine RB_pg H p0 p1 hr h8 h6 (fun z hz => trp_n hz) (fun k z a1 a2 a3 => by rw [q_u_n (by omega), q_u_n (by omega), q_u_n (by omega), q_u_n (by omega)]) ?_ ?_ ?_ ?_ (fun k k0 k1 => by omega) (fun _ h => by omega)
  · rw [e0, q_gu_ne (by omega), q_gu_ne (by omega), q_gu_ne (by omega), q_gu_eq rfl]
    rfl
  · rw [e1, q_gu_ne (by omega), q_gu_ne (by omega), q_gu_eq rfl]
    rfl
  · rw [e2, q_gu_eq rfl, q_sg_id (by omega) (by omega), ew]
  · rw [e3, q_gu_ne (by omega), q_gu_eq rfl]
    rfl
theorem cc_losePower (H : RB m s 7) (hr : ∀ q, 0 ≤ q → q < 48 → pg m q 1 ≤ 6) : ∃ u, EV (d + 1) 107 0 [.ref 7] [] (q_h L xs s O c) = some (.inl none, q_h L xs (u) O c) ∧ RB (lsp m) u 7 ∧ ∀ k z, k ≠ 16 → k ≠ 17 → ¬ (k = 7 ∧ z = 5) → u k z = s k z := by
  have f1 : EV (d) 351 0 [.ref 16, .int (q_I (-1)), .null, .null] [] (q_h L xs s O c) = some (.inl none, q_h L xs (q_v s 16 0 4 (fun _ => q_I (-1))) O c) := jj_fill ly_a16 (by decide)
  have f2 : EV (d) 351 0 [.ref 17, .int (q_I (-1)), .null, .null] [] (q_h L xs (q_v s 16 0 4 (fun _ => q_I (-1))) O c) = some (.inl none, q_h L xs (q_v (q_v s 16 0 4 (fun _ => q_I (-1))) 17 0 4 (fun _ => q_I (-1))) O c) := jj_fill ly_a17 (by decide)
  generalize hM : q_v (q_v s 16 0 4 (fun _ => q_I (-1))) 17 0 4 (fun _ => q_I (-1)) = M at f2
  have Mk : ∀ k z, k ≠ 16 → k ≠ 17 → M k z = s k z := fun k z h1 h2 => by
    rw [← hM]
    unfold q_v
    rw [if_neg (by omega), if_neg (by omega)]
  have Mg : ∀ k z, k ≠ 16 → k ≠ 17 → q_g M k z = q_g s k z := fun k z h1 h2 => by
    show (M k z).toInt = _
    rw [Mk k z h1 h2]
    rfl
  refine ⟨q_u M 7 5 0, ?_, ?_, fun k z a1 a2 a3 => by rw [q_u_n (by omega), Mk k z a1 a2]⟩
  · simp (disch := first | omega | exact q_b_01 _) only [↓reduceIte, q_bk0, q_bk1, q_bk2, q_sg_b, q_b_0, q_b_n0, q_b_1, q_b_n1, q_b_T, q_b_F, q_sg_g, q_sg_sg, q_sg_xs, q_sg_id, q_gu_ne, q_gu_eq, q_g_fne, q_g_cpe, q_w_f, q_v_f, q_u_f, q_fn_f, q_cp_f, q_sg_pg, q_sg_hc, q_lt_t, q_lt_f, q_le_t, q_le_f, q_eq_t, q_eq_f, ne_eq, eq_self, Bool.false_eq_true, Bool.true_eq_false, not_true_eq_false, not_false_eq_true, true_and, and_true, false_and, and_false, true_or, or_true, false_or, or_false, if_true, if_false, Int.reduceAdd, Int.reduceMul, Int.reduceSub, Int.reduceNeg, f1, f2, R_107_0, R_107_8, R_107_16, R_107_21, C_107_5, C_107_13]
  · refine RB_up2 H hr (fun p w p0 p1 w0 w1 => lsp_n (by omega)) (fun k k0 k1 => funext fun z => by rw [q_gu_ne (by omega), Mg k z (by omega) (by omega)]) (fun r r0 r1 => ?_) ⟨?_, fun k k0 k1 => ?_⟩ ⟨?_, ?_, ?_, ?_, ?_, ?_⟩ ⟨?_, fun a w a0 a1 w0 w1 => ?_⟩
    · have e : lsp m (9 + 2 * r) = -1 := by
        unfold lsp
        rw [if_neg (by omega), if_pos (by omega)]
      rw [e, q_gu_ne (by omega), q_gu_ne (by omega), ← hM, q_v_ne (by omega), q_v_g0 _ _ _ r0 r1, q_v_g0 _ _ _ r0 r1]
      exact ⟨rfl, fun h => absurd rfl h, fun _ => rfl⟩
    · rw [q_gu_eq rfl]
      rfl
    · have e : lsp m 8 = 0 := rfl
      omega
    · rw [lsp_n (by omega), q_gu_ne (by omega), Mg 7 6 (by omega) (by omega)]
      exact rb_risk H
    · rw [lsp_n (by omega), q_gu_ne (by omega), Mg 7 7 (by omega) (by omega)]
      exact rb_cost H
    · rw [lsp_n (by omega), q_gu_ne (by omega), Mg 7 8 (by omega) (by omega)]
      exact rb_tick H
    · rw [lsp_n (by omega), q_gu_ne (by omega), Mg 7 9 (by omega) (by omega)]
      exact rb_seed H
    · rw [lsp_n (by omega), q_gu_ne (by omega), Mg 7 10 (by omega) (by omega)]
      exact rb_texts H
    · rw [lsp_n (by omega), q_gu_ne (by omega), Mg 7 12 (by omega) (by omega)]
      exact rb_logn H
    · rw [q_gu_ne (by omega), Mg 7 13 (by omega) (by omega)]
      exact rb_lnx H
    · rw [lsp_n (by omega)] at a1
      rw [lsp_n (by omega), q_gu_ne (by omega), q_gu_ne (by omega), Mg 7 13 (by omega) (by omega), Mg 20 _ (by omega) (by omega)]
      exact rb_log H a0 a1 w0 w1
theorem cc_addLog {num what made : Int} (H : RB m s 7) (hr : ∀ q, 0 ≤ q → q < 48 → pg m q 1 ≤ 6) (h8 : m 8 ≤ 12) (h60 : 0 ≤ m 6) (h6 : m 6 ≤ 60) (n0 : -2147483648 ≤ num) (n1 : num < 2147483648) (w0 : 0 ≤ what) (w1 : what ≤ 1) (d0 : 0 ≤ made) (d1 : made ≤ 100) : ∃ u, EV (d + 1) 108 0 [.ref 7, .int (q_I (num)), .int (q_I (what)), .int (q_I (made)), .null] [] (q_h L xs s O c) = some (.inl none, q_h L xs (u) O c) ∧ RB (lgr num what made m) u 7 ∧ ∀ k z, k ≠ 20 → ¬ (k = 7 ∧ (z = 12 ∨ z = 13)) → u k z = s k z := by
  have lx := rb_lnx H
  have fm := jj_floorMod (d := d) (L := L) (xs := xs) (s := s) (O := O) (c := c) (x := q_g s 7 13) (y := 60) (by omega) (by omega) (by omega) (by omega)
  have em : q_g s 7 13 % 60 = q_g s 7 13 := by omega
  rw [em] at fm
  have r8 := q_g_rg s 7 8
  generalize hx : q_g s 7 13 = x at *
  generalize hM : q_u (q_u (q_u (q_u s 20 (x * 4) (q_g s 7 8)) 20 (x * 4 + 1) num) 20 (x * 4 + 2) what) 20 (x * 4 + 3) made = M
  have M13 : q_g M 7 13 = x := by rw [← hM, q_gu_ne (by omega), q_gu_ne (by omega), q_gu_ne (by omega), q_gu_ne (by omega), hx]
  have rm : q_rm (x + 1) 60 = (x + 1) % 60 := by
    unfold q_rm
    rw [q_sg_id (x := x + 1) (by omega) (by omega), q_sg_id (x := 60) (by omega) (by omega)]
    exact Int.tmod_eq_emod_of_nonneg (by omega)
  have M12 : q_g (q_u M 7 13 ((x + 1) % 60)) 7 12 = m 6 := by rw [q_gu_ne (by omega), ← hM, q_gu_ne (by omega), q_gu_ne (by omega), q_gu_ne (by omega), q_gu_ne (by omega)]; exact rb_logn H
  have mi := jj_min (d := d) (L := L) (xs := xs) (s := q_u M 7 13 ((x + 1) % 60)) (O := O) (c := c) (x := 60) (y := m 6 + 1)
  have e : (if q_sg (m 6 + 1) < q_sg 60 then m 6 + 1 else 60) = mn 60 (m 6 + 1) := by
    unfold mn
    rw [q_sg_id (x := m 6 + 1) (by omega) (by omega), q_sg_id (x := 60) (by omega) (by omega)]
    repeat' split
    all_goals omega
  rw [e] at mi
  have mr := mn_rg (a := 60) (c := m 6 + 1) (by omega) (by omega)
  generalize hW : q_u (q_u M 7 13 ((x + 1) % 60)) 7 12 (mn 60 (m 6 + 1)) = W
  have Wg : ∀ k z, k ≠ 20 → ¬ (k = 7 ∧ (z = 12 ∨ z = 13)) → q_g W k z = q_g s k z := fun k z h1 h2 => by rw [← hW, q_gu_ne (by omega), q_gu_ne (by omega), ← hM, q_gu_ne (by omega), q_gu_ne (by omega), q_gu_ne (by omega), q_gu_ne (by omega)]
  have W13 : q_g W 7 13 = (x + 1) % 60 := by rw [← hW, q_gu_ne (by omega), q_gu_eq rfl, q_sg_id (by omega) (by omega)]
  have W20 : ∀ z, q_g W 20 z = if z = x * 4 + 3 then made else if z = x * 4 + 2 then what else if z = x * 4 + 1 then num else if z = x * 4 then m 5 else q_g s 20 z := fun z => by
    rw [← hW, q_gu_ne (by omega), q_gu_ne (by omega), ← hM]
    by_cases e3 : z = x * 4 + 3
    · rw [if_pos e3, q_gu_eq e3, q_sg_id (by omega) (by omega)]
    · rw [if_neg e3, q_gu_ne (by omega)]
      by_cases e2 : z = x * 4 + 2
      · rw [if_pos e2, q_gu_eq e2, q_sg_id (by omega) (by omega)]
      · rw [if_neg e2, q_gu_ne (by omega)]
        by_cases e1 : z = x * 4 + 1
        · rw [if_pos e1, q_gu_eq e1, q_sg_id n0 n1]
        · rw [if_neg e1, q_gu_ne (by omega)]
          by_cases e0 : z = x * 4
          · rw [if_pos e0, q_gu_eq e0, q_sg_id r8.1 r8.2]
            exact rb_tick H
          · rw [if_neg e0, q_gu_ne (by omega)]
  refine ⟨W, ?_, ?_, fun k z h1 h2 => by rw [← hW, q_u_n (by omega), q_u_n (by omega), ← hM, q_u_n (by omega), q_u_n (by omega), q_u_n (by omega), q_u_n (by omega)]⟩
  · simp (disch := first | omega | exact q_b_01 _) only [↓reduceIte, q_bk0, q_bk1, q_bk2, q_sg_b, q_b_0, q_b_n0, q_b_1, q_b_n1, q_b_T, q_b_F, q_sg_g, q_sg_sg, q_sg_xs, q_sg_id, q_gu_ne, q_gu_eq, q_g_fne, q_g_cpe, q_w_f, q_v_f, q_u_f, q_fn_f, q_cp_f, q_sg_pg, q_sg_hc, q_lt_t, q_lt_f, q_le_t, q_le_f, q_eq_t, q_eq_f, ne_eq, eq_self, Bool.false_eq_true, Bool.true_eq_false, not_true_eq_false, not_false_eq_true, true_and, and_true, false_and, and_false, true_or, or_true, false_or, or_false, if_true, if_false, Int.reduceAdd, Int.reduceMul, Int.reduceSub, Int.reduceNeg, hx, fm, hM, M13, rm, M12, mi, hW, R_108_0, R_108_9, R_108_24, R_108_34, R_108_44, R_108_54, R_108_64, R_108_67, R_108_79, R_108_82, C_108_6, C_108_76]
  · refine RB_up2 H hr (fun p w p0 p1 w0 w1 => lgr_n (by omega) (by omega)) (fun k k0 k1 => funext fun z => Wg k z (by omega) (by omega)) (fun r r0 r1 => ?_) ⟨?_, fun k k0 k1 => ?_⟩ ⟨?_, ?_, ?_, ?_, ?_, ?_⟩ ⟨by rw [W13]; omega, fun a w a0 a1 b0 b1 => ?_⟩
    · rw [lgr_n (by omega) (by omega), lgr_n (by omega) (by omega), Wg 16 r (by omega) (by omega), Wg 17 r (by omega) (by omega)]
      exact H.2.2.1 r r0 r1
    · rw [lgr_n (by omega) (by omega), Wg 7 5 (by omega) (by omega)]
      exact rb_chg H
    · rw [lgr_n (by omega) (by omega)] at k1
      rw [lgr_n (by omega) (by omega), lgr_n (by omega) (by omega), Wg 18 k (by omega) (by omega), Wg 19 k (by omega) (by omega)]
      exact ⟨rb_ck H k0 k1, rb_cv H k0 k1⟩
    · rw [lgr_n (by omega) (by omega), Wg 7 6 (by omega) (by omega)]
      exact rb_risk H
    · rw [lgr_n (by omega) (by omega), Wg 7 7 (by omega) (by omega)]
      exact rb_cost H
    · rw [lgr_n (by omega) (by omega), Wg 7 8 (by omega) (by omega)]
      exact rb_tick H
    · rw [lgr_n (by omega) (by omega), Wg 7 9 (by omega) (by omega)]
      exact rb_seed H
    · rw [lgr_n (by omega) (by omega), Wg 7 10 (by omega) (by omega)]
      exact rb_texts H
    · rw [lgr_6, ← hW, q_gu_eq rfl, q_sg_id (by omega) (by omega)]
    · rw [lgr_6] at a1
      rw [W13, W20]
      have a60 : a < 60 := by omega
      by_cases ea : a = 0
      · have ex : ((x + 1) % 60 - 1 - a) % 60 = x := by omega
        rw [ex]
        unfold lgr
        rcases (show w = 0 ∨ w = 1 ∨ w = 2 ∨ w = 3 by omega) with ew | ew | ew | ew
        · rw [if_neg (by omega), if_neg (by omega), if_neg (by omega), if_pos (by omega), if_pos (by omega)]
        · rw [if_neg (by omega), if_neg (by omega), if_pos (by omega), if_neg (by omega), if_pos (by omega)]
        · rw [if_neg (by omega), if_pos (by omega), if_neg (by omega), if_neg (by omega), if_pos (by omega)]
        · rw [if_pos (by omega), if_neg (by omega), if_neg (by omega), if_neg (by omega), if_pos (by omega)]
      · have a6 : a - 1 < m 6 := by
          unfold mn at a1
          split at a1 <;> omega
        have ex : ((x + 1) % 60 - 1 - a) % 60 = (x - 1 - (a - 1)) % 60 := by omega
        have nx : (x - 1 - (a - 1)) % 60 ≠ x := by omega
        rw [ex, if_neg (by omega), if_neg (by omega), if_neg (by omega), if_neg (by omega)]
        have lg := rb_log H (a := a - 1) (w := w) (by omega) a6 b0 b1
        rw [hx] at lg
        rw [lg]
        unfold lgr
        rw [if_neg (by omega), if_neg (by omega), if_neg (by omega), if_neg (by omega), if_pos (by omega), show 41 + 4 * a + w - 4 = 41 + 4 * (a - 1) + w by omega]
end CRB
