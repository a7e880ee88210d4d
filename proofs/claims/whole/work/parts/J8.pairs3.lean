/-! PAIRS, of both: the call -/
theorem m4b_or : ∀ a b c d : Bool, q_or 0 (if a then q_shl 1 0 else 0) = m4b a false false false ∧ q_or (m4b a false false false) (if b then q_shl 1 1 else 0) = m4b a b false false ∧ q_or (m4b a b false false) (if c then q_shl 1 2 else 0) = m4b a b c false ∧ q_or (m4b a b c false) (if d then q_shl 1 3 else 0) = m4b a b c d := by decide +kernel
section PR3
variable {d L : Nat} {xs : Nat → Int32} {s t : Nat → Int → Int32} {O : Nat → Int64} {c : Bool × Nat × Nat} {m A : Int → Int} {b x : Int}
theorem cc_bestPairs (H : RB m s 7) (I : Inv m b) : ∃ t, EV (d + 38) 203 0 [.ref 1] [] (q_h L xs s O c) = some (.inl (some (.int (q_I ((pfV (pMa m) (CM m) 4 (fun _ => -1)).1)))), q_h L xs (t) O c) ∧ (∀ i, 0 ≤ i → i < 4 → q_g t 268 i = (pfV (pMa m) (CM m) 4 (fun _ => -1)).2 i) ∧ ∀ k z, k ≠ 267 → k ≠ 268 → ¬ (k = 1 ∧ z = 18) → ¬ (270 ≤ k ∧ k ≤ 284) → t k z = s k z := by
  obtain ⟨t1, a1, a2, a3⟩ := cc_readViews (d := d + 21) (L := L) (xs := xs) (s := s) (O := O) (c := c) H (inv_hd I) (inv_vw I)
  have fi := jj_fill (d := d + 37) (L := L) (xs := xs) (s := t1) (O := O) (c := c) (k := 267) (n := 4) (v := -1) ly_a267 (by decide)
  generalize hS : q_u (q_v t1 267 0 ((4 : Nat) : Int) (fun _ => q_I (-1))) 1 18 (-1) = S
  have fS : ∀ k z, k ≠ 267 → ¬ (k = 1 ∧ z = 18) → S k z = t1 k z := fun k z h1 h2 => by
    rw [← hS, q_u_n h2]
    exact if_neg (fun e => h1 e.1)
  have HS : RB m S 7 := rb_k H (fun k z h1 h2 => by rw [fS k z (by omega) (by omega), a3 k (by omega)])
  have WS : ∀ v, 0 ≤ v → v < 5 → Wk m v S := fun v v0 v1 => Wk_fr (a2 v v0 v1) (funext fun z => fS _ z (by unfold q_r264; omega) (by unfold q_r264; omega)) (funext fun z => fS _ z (by unfold q_r264; omega) (by unfold q_r264; omega)) (funext fun z => fS _ z (by unfold q_r264; omega) (by unfold q_r264; omega))
  have Ps : PSt (fun _ => -1) (-1, q_g S 268) S := by
    refine ⟨fun i i0 i1 => ?_, ?_, by dsimp only; omega, fun i i0 i1 => rfl⟩
    · rw [← hS, q_gu_ne (by omega)]
      show (if (267 : Nat) = 267 ∧ 0 ≤ i ∧ i < 0 + ((4 : Nat) : Int) then q_I (-1) else t1 267 i).toInt = -1
      rw [if_pos ⟨rfl, by omega, by omega⟩]
      rfl
    · rw [← hS, q_gu_eq rfl]
      rfl
  obtain ⟨t, b1, b2, b3⟩ := cc_pairFrom (d := d + 29) (L := L) (xs := xs) (O := O) (c := c) (inv_vw I) 4 0 (fun _ => -1) (-1, q_g S 268) S (by omega) (by omega) (by omega) Ps HS WS
  have vr := pfV_rg (ma := pMa m) (cm := CM m) (CM_rg m) 4 (fun _ => -1)
  have eu : pfU (-1, q_g S 268) 0 (pfV (pMa m) (CM m) 4 (fun _ => -1)) = pfV (pMa m) (CM m) 4 (fun _ => -1) := by
    unfold pfU
    rw [if_pos (show (-1, q_g S 268).1 < 0 + (pfV (pMa m) (CM m) 4 (fun _ => -1)).1 by dsimp only; omega), Int.zero_add]
  rw [eu] at b2
  rw [show (4 : Int) - ((4 : Nat) : Int) = 0 from rfl] at b1
  have g18 := b2.2.1
  refine ⟨t, ?_, b2.2.2.2, fun k z k1 k2 k3 k4 => by rw [b3 k z k1 k2 k3, fS k z k1 k3, a3 k (by omega)]⟩
  simp (disch := first | omega | exact q_b_01 _) only [↓reduceIte, q_bk0, q_bk1, q_bk2, q_sg_b, q_b_0, q_b_n0, q_b_1, q_b_n1, q_b_T, q_b_F, q_sg_g, q_sg_sg, q_sg_xs, q_sg_id, q_gu_ne, q_gu_eq, q_g_fne, q_g_cpe, q_w_f, q_v_f, q_u_f, q_fn_f, q_cp_f, q_sg_pg, q_sg_hc, q_lt_t, q_lt_f, q_le_t, q_le_f, q_eq_t, q_eq_f, ne_eq, eq_self, Bool.false_eq_true, Bool.true_eq_false, not_true_eq_false, not_false_eq_true, true_and, and_true, false_and, and_false, true_or, or_true, false_or, or_false, if_true, if_false, Int.reduceAdd, Int.reduceMul, Int.reduceSub, Int.reduceNeg, a1, fi, hS, b1, g18, R_203_0, R_203_4, R_203_12, R_203_17, R_203_23, C_203_1, C_203_9, C_203_20]
theorem mm_open4 (em : q_g s 286 = m) (x3 x4 x5 x6 : Value) : EV (d + 1) 335 36 [.ref 285, .int (q_I (x)), .int (q_I (0)), .int (q_I (0)), x4, x5, x6] [] (q_h L xs s O c) = EV (d + 1) 335 65 [.ref 285, .int (q_I (x)), .int (q_I (m4 (fun i => vo m i))), .int (q_I (4)), x4, x5, x6] [] (q_h L xs s O c) := by
  have step : ∀ i y : Int, 0 ≤ i → i < 4 → EV (d + 1) 335 36 [.ref 285, .int (q_I (x)), .int (q_I (y)), .int (q_I (i)), x4, x5, x6] [] (q_h L xs s O c) = EV (d + 1) 335 36 [.ref 285, .int (q_I (x)), .int (q_I (q_or y (if vo m i then q_shl 1 i else 0))), .int (q_I (i + 1)), x4, x5, x6] [] (q_h L xs s O c) := fun i y i0 i1 => by
    have op := mm_isOpen (d := d) (L := L) (xs := xs) (s := s) (O := O) (c := c) i0 i1
    rw [em] at op
    have ev : vo m i = true ↔ m (9 + 2 * i) ≠ -1 := by
      unfold vo
      rw [Bool.or_eq_true, decide_eq_true_eq, decide_eq_true_eq]
      exact ⟨fun h => h.elim (fun e => by omega) id, Or.inr⟩
    rw [R_335_36]
    by_cases h : m (9 + 2 * i) ≠ -1
    · rw [q_bt h] at op
      rw [if_pos (ev.mpr h)]
      simp (disch := first | omega | exact q_b_01 _) only [↓reduceIte, q_bk0, q_bk1, q_bk2, q_sg_b, q_b_0, q_b_n0, q_b_1, q_b_n1, q_b_T, q_b_F, q_sg_g, q_sg_sg, q_sg_xs, q_sg_id, q_gu_ne, q_gu_eq, q_g_fne, q_g_cpe, q_w_f, q_v_f, q_u_f, q_fn_f, q_cp_f, q_sg_pg, q_sg_hc, q_lt_t, q_lt_f, q_le_t, q_le_f, q_eq_t, q_eq_f, ne_eq, eq_self, Bool.false_eq_true, Bool.true_eq_false, not_true_eq_false, not_false_eq_true, true_and, and_true, false_and, and_false, true_or, or_true, false_or, or_false, if_true, if_false, Int.reduceAdd, Int.reduceMul, Int.reduceSub, Int.reduceNeg, op, R_335_41, C_335_44, R_335_47, R_335_50, R_335_57]
    · rw [q_bf h] at op
      rw [if_neg (fun e => h (ev.mp e))]
      simp (disch := first | omega | exact q_b_01 _) only [↓reduceIte, q_bk0, q_bk1, q_bk2, q_sg_b, q_b_0, q_b_n0, q_b_1, q_b_n1, q_b_T, q_b_F, q_sg_g, q_sg_sg, q_sg_xs, q_sg_id, q_gu_ne, q_gu_eq, q_g_fne, q_g_cpe, q_w_f, q_v_f, q_u_f, q_fn_f, q_cp_f, q_sg_pg, q_sg_hc, q_lt_t, q_lt_f, q_le_t, q_le_f, q_eq_t, q_eq_f, ne_eq, eq_self, Bool.false_eq_true, Bool.true_eq_false, not_true_eq_false, not_false_eq_true, true_and, and_true, false_and, and_false, true_or, or_true, false_or, or_false, if_true, if_false, Int.reduceAdd, Int.reduceMul, Int.reduceSub, Int.reduceNeg, op, R_335_41, C_335_44, R_335_47, R_335_56, R_335_57]
  obtain ⟨o1, o2, o3, o4⟩ := m4b_or (vo m 0) (vo m 1) (vo m 2) (vo m 3)
  rw [step 0 0 (by omega) (by omega), o1, step _ _ (by omega) (by omega), show (0 : Int) + 1 = 1 from rfl, o2, step _ _ (by omega) (by omega), show (1 : Int) + 1 = 2 from rfl, o3, step _ _ (by omega) (by omega), show (2 : Int) + 1 = 3 from rfl, o4, R_335_36]
  simp (disch := first | omega | exact q_b_01 _) only [↓reduceIte, q_bk0, q_bk1, q_bk2, q_sg_b, q_b_0, q_b_n0, q_b_1, q_b_n1, q_b_T, q_b_F, q_sg_g, q_sg_sg, q_sg_xs, q_sg_id, q_gu_ne, q_gu_eq, q_g_fne, q_g_cpe, q_w_f, q_v_f, q_u_f, q_fn_f, q_cp_f, q_sg_pg, q_sg_hc, q_lt_t, q_lt_f, q_le_t, q_le_f, q_eq_t, q_eq_f, ne_eq, eq_self, Bool.false_eq_true, Bool.true_eq_false, not_true_eq_false, not_false_eq_true, true_and, and_true, false_and, and_false, true_or, or_true, false_or, or_false, if_true, if_false, Int.reduceAdd, Int.reduceMul, Int.reduceSub, Int.reduceNeg]
  rfl
theorem op_pairs (B : Big b s) (v1' : -2147483648 ≤ x) (v2' : x < 2147483648) : Op (Big b) (fun h => EV (d + 40) 26 0 [.ref 1, .int (q_I (x)), .ref 312, .null] [] h) (fun h => EV (d + 40) 335 0 [.ref 285, .int (q_I (x)), .null, .null, .null, .null, .null] [] h) L xs s O c := by
  have I := B.1.2.1
  have H := B.1.1
  by_cases hx : x = -1 ∨ (0 ≤ x ∧ x < 4)
  · obtain ⟨t, t1, t2, t3⟩ := cc_bestPairs (d := d) (L := L) (xs := xs) (s := s) (O := O) (c := c) H I
    generalize hm : q_g s 286 = m at *
    have vr := pfV_rg (ma := pMa m) (cm := CM m) (CM_rg m) 4 (fun _ => -1)
    have tm : q_g (q_u t 285 0 0) 286 = m := by
      rw [q_u_f (by omega), ← hm]
      exact funext fun z => by
        show (t 286 z).toInt = _
        rw [t3 286 z (by omega) (by omega) (by omega) (by omega)]
        rfl
    have g0 : q_g (q_u t 285 0 0) 285 0 = 0 := by rw [q_gu_eq rfl]; rfl
    have e4 : m4 (fun i => vo m i) = m4 (fl4 m 4 (fun _ => -1)) := m4_c (fun i i0 i1 => by
      rw [Bool.eq_iff_iff, fl4_t]
      exact ⟨fun h => ⟨by omega, rfl, h⟩, fun h => h.2.2⟩)
    have mg := m4_rg (fl4 m 4 (fun _ => -1))
    have fin : ∀ (w : Nat → Int → Int32), (∀ k z, k ≠ 307 → k ≠ 310 → w k z = q_u t 285 0 0 k z) → q_g w 285 0 = 0 ∧ Big b w := fun w hw => by
      constructor
      · show (w 285 0).toInt = 0
        rw [hw 285 0 (by omega) (by omega)]
        exact g0
      · refine Big_sm B (fun k z hz => ?_)
        unfold relz relc at hz
        rw [hw k z (by omega) (by omega), q_u_n (by omega), t3 k z (by omega) (by omega) (by omega) (by omega)]
    by_cases e : x = -1
    · subst e
      obtain ⟨u, u1, u2, u3⟩ := mm_allBest (d := d + 23) (L := L) (xs := xs) (O := vp_updL O 0 (q_I (pfV (pMa m) (CM m) 4 (fun _ => -1)).1).toInt64) (c := c) tm (inv_vw I)
      have uv : q_g u 310 (m4 (fl4 m 4 (fun _ => -1))) = (pfV (pMa m) (CM m) 4 (fun _ => -1)).1 := (pf_val (A := q_g u 310) (fun S S0 S1 => (u2 S S0 S1).1) 4 (fun _ => -1) (by omega)).symm
      obtain ⟨f1, f2⟩ := fin u u3
      have op := mm_open4 (d := d + 39) (L := L) (xs := xs) (s := q_u t 285 0 0) (O := vp_updL O 0 (q_I (pfV (pMa m) (CM m) 4 (fun _ => -1)).1).toInt64) (c := c) (x := -1) tm .null .null .null .null
      rw [e4] at op
      refine ⟨0, (pfV (pMa m) (CM m) 4 (fun _ => -1)).1, t, u, vp_updL O 0 (q_I (pfV (pMa m) (CM m) 4 (fun _ => -1)).1).toInt64, c, ?_, ?_, by omega, by omega, f1, fun _ => rfl, Or.inl rfl, f2⟩
      · simp (disch := first | omega | exact q_b_01 _) only [↓reduceIte, q_bk0, q_bk1, q_bk2, q_sg_b, q_b_0, q_b_n0, q_b_1, q_b_n1, q_b_T, q_b_F, q_sg_g, q_sg_sg, q_sg_xs, q_sg_id, q_gu_ne, q_gu_eq, q_g_fne, q_g_cpe, q_w_f, q_v_f, q_u_f, q_fn_f, q_cp_f, q_sg_pg, q_sg_hc, q_lt_t, q_lt_f, q_le_t, q_le_f, q_eq_t, q_eq_f, ne_eq, eq_self, Bool.false_eq_true, Bool.true_eq_false, not_true_eq_false, not_false_eq_true, true_and, and_true, false_and, and_false, true_or, or_true, false_or, or_false, if_true, if_false, Int.reduceAdd, Int.reduceMul, Int.reduceSub, Int.reduceNeg, t1, R_26_0, R_26_7, R_26_9, R_26_13, C_26_4, R_168_0, R_168_5, R_168_9, R_168_12, R_168_20, R_168_24, R_168_30, R_168_34, R_168_40, C_168_6, C_168_21, q_lst, K_26_2]
      · dsimp only
        rw [R_335_0]
        simp (disch := first | omega | exact q_b_01 _) only [↓reduceIte, q_bk0, q_bk1, q_bk2, q_sg_b, q_b_0, q_b_n0, q_b_1, q_b_n1, q_b_T, q_b_F, q_sg_g, q_sg_sg, q_sg_xs, q_sg_id, q_gu_ne, q_gu_eq, q_g_fne, q_g_cpe, q_w_f, q_v_f, q_u_f, q_fn_f, q_cp_f, q_sg_pg, q_sg_hc, q_lt_t, q_lt_f, q_le_t, q_le_f, q_eq_t, q_eq_f, ne_eq, eq_self, Bool.false_eq_true, Bool.true_eq_false, not_true_eq_false, not_false_eq_true, true_and, and_true, false_and, and_false, true_or, or_true, false_or, or_false, if_true, if_false, Int.reduceAdd, Int.reduceMul, Int.reduceSub, Int.reduceNeg, g0, R_335_19, R_335_20, R_335_23, R_335_32]
        refine Eq.trans op ?_
        simp (disch := first | omega | exact q_b_01 _) only [↓reduceIte, q_bk0, q_bk1, q_bk2, q_sg_b, q_b_0, q_b_n0, q_b_1, q_b_n1, q_b_T, q_b_F, q_sg_g, q_sg_sg, q_sg_xs, q_sg_id, q_gu_ne, q_gu_eq, q_g_fne, q_g_cpe, q_w_f, q_v_f, q_u_f, q_fn_f, q_cp_f, q_sg_pg, q_sg_hc, q_lt_t, q_lt_f, q_le_t, q_le_f, q_eq_t, q_eq_f, ne_eq, eq_self, Bool.false_eq_true, Bool.true_eq_false, not_true_eq_false, not_false_eq_true, true_and, and_true, false_and, and_false, true_or, or_true, false_or, or_false, if_true, if_false, Int.reduceAdd, Int.reduceMul, Int.reduceSub, Int.reduceNeg, u1, uv, R_335_65, C_335_66, R_335_69, R_335_74, R_335_80]
    · obtain ⟨x0, x1⟩ : 0 ≤ x ∧ x < 4 := by omega
      have tx := t2 x x0 x1
      obtain ⟨u, u1, u2, u3⟩ := mm_allBest (d := d + 23) (L := L) (xs := xs) (O := vp_updL O 0 (q_I ((pfV (pMa m) (CM m) 4 (fun _ => -1)).2 x)).toInt64) (c := c) tm (inv_vw I)
      have um : q_g u 286 = m := by
        rw [← tm]
        exact funext fun z => by
          show (u 286 z).toInt = _
          rw [u3 286 z (by omega) (by omega)]
          rfl
      obtain ⟨w, w1, w2⟩ := mm_recon (d := d + 23) (L := L) (xs := xs) (O := vp_updL O 0 (q_I ((pfV (pMa m) (CM m) 4 (fun _ => -1)).2 x)).toInt64) (c := c) (A := q_g u 310) (inv_vw I) x0 x1 (fun S S0 S1 => (u2 S S0 S1).1) (fun S S0 S1 => ⟨(u2 S S0 S1).2.1, by have := (u2 S S0 S1).2.2; omega⟩) 4 (fun _ => -1) u 4 .null .null .null (by omega) um (fun _ _ _ => rfl) rfl (Or.inl (by omega))
      obtain ⟨f1, f2⟩ := fin w (fun k z k1 k2 => by rw [w2 k z k1, u3 k z k1 k2])
      have op := mm_open4 (d := d + 39) (L := L) (xs := xs) (s := q_u t 285 0 0) (O := vp_updL O 0 (q_I ((pfV (pMa m) (CM m) 4 (fun _ => -1)).2 x)).toInt64) (c := c) (x := x) tm .null .null .null .null
      rw [e4] at op
      refine ⟨0, (pfV (pMa m) (CM m) 4 (fun _ => -1)).2 x, t, w, vp_updL O 0 (q_I ((pfV (pMa m) (CM m) 4 (fun _ => -1)).2 x)).toInt64, c, ?_, ?_, by omega, by omega, f1, fun _ => rfl, Or.inl rfl, f2⟩
      · have ir : (0 ≤ x ∧ x < 4) := ⟨x0, x1⟩
        simp (disch := first | omega | exact q_b_01 _) only [↓reduceIte, q_bk0, q_bk1, q_bk2, q_sg_b, q_b_0, q_b_n0, q_b_1, q_b_n1, q_b_T, q_b_F, q_sg_g, q_sg_sg, q_sg_xs, q_sg_id, q_gu_ne, q_gu_eq, q_g_fne, q_g_cpe, q_w_f, q_v_f, q_u_f, q_fn_f, q_cp_f, q_sg_pg, q_sg_hc, q_lt_t, q_lt_f, q_le_t, q_le_f, q_eq_t, q_eq_f, ne_eq, eq_self, Bool.false_eq_true, Bool.true_eq_false, not_true_eq_false, not_false_eq_true, true_and, and_true, false_and, and_false, true_or, or_true, false_or, or_false, if_true, if_false, Int.reduceAdd, Int.reduceMul, Int.reduceSub, Int.reduceNeg, t1, tx, ir, cc_isReader, R_26_0, R_26_7, R_26_9, R_26_13, C_26_4, R_168_0, R_168_5, R_168_9, R_168_12, R_168_20, R_168_24, R_168_30, R_168_34, R_168_40, C_168_6, C_168_21, q_lst, K_26_2]
      · have ii : (0 ≤ x ∧ x ≤ 3) := by omega
        dsimp only
        rw [R_335_0]
        simp (disch := first | omega | exact q_b_01 _) only [↓reduceIte, q_bk0, q_bk1, q_bk2, q_sg_b, q_b_0, q_b_n0, q_b_1, q_b_n1, q_b_T, q_b_F, q_sg_g, q_sg_sg, q_sg_xs, q_sg_id, q_gu_ne, q_gu_eq, q_g_fne, q_g_cpe, q_w_f, q_v_f, q_u_f, q_fn_f, q_cp_f, q_sg_pg, q_sg_hc, q_lt_t, q_lt_f, q_le_t, q_le_f, q_eq_t, q_eq_f, ne_eq, eq_self, Bool.false_eq_true, Bool.true_eq_false, not_true_eq_false, not_false_eq_true, true_and, and_true, false_and, and_false, true_or, or_true, false_or, or_false, if_true, if_false, Int.reduceAdd, Int.reduceMul, Int.reduceSub, Int.reduceNeg, g0, ii, mm_isIn, R_335_6, C_335_9, R_335_12, R_335_19, R_335_20, R_335_23, R_335_32]
        refine Eq.trans op ?_
        simp (disch := first | omega | exact q_b_01 _) only [↓reduceIte, q_bk0, q_bk1, q_bk2, q_sg_b, q_b_0, q_b_n0, q_b_1, q_b_n1, q_b_T, q_b_F, q_sg_g, q_sg_sg, q_sg_xs, q_sg_id, q_gu_ne, q_gu_eq, q_g_fne, q_g_cpe, q_w_f, q_v_f, q_u_f, q_fn_f, q_cp_f, q_sg_pg, q_sg_hc, q_lt_t, q_lt_f, q_le_t, q_le_f, q_eq_t, q_eq_f, ne_eq, eq_self, Bool.false_eq_true, Bool.true_eq_false, not_true_eq_false, not_false_eq_true, true_and, and_true, false_and, and_false, true_or, or_true, false_or, or_false, if_true, if_false, Int.reduceAdd, Int.reduceMul, Int.reduceSub, Int.reduceNeg, u1, R_335_65, C_335_66, R_335_69]
        exact w1
  · have ir : ¬ (0 ≤ x ∧ x < 4) := by omega
    have ii : ¬ (0 ≤ x ∧ x ≤ 3) := by omega
    refine ⟨1, 0, s, q_u s 285 0 1, O, q_th c, ?_, ?_, by omega, by omega, by rw [q_gu_eq rfl]; rfl, by omega, Or.inr rfl, Big_sm B (Sm_u Sm_rfl (by unfold relz relc; omega))⟩
    · simp (disch := first | omega | exact q_b_01 _) only [↓reduceIte, q_bk0, q_bk1, q_bk2, q_sg_b, q_b_0, q_b_n0, q_b_1, q_b_n1, q_b_T, q_b_F, q_sg_g, q_sg_sg, q_sg_xs, q_sg_id, q_gu_ne, q_gu_eq, q_g_fne, q_g_cpe, q_w_f, q_v_f, q_u_f, q_fn_f, q_cp_f, q_sg_pg, q_sg_hc, q_lt_t, q_lt_f, q_le_t, q_le_f, q_eq_t, q_eq_f, ne_eq, eq_self, Bool.false_eq_true, Bool.true_eq_false, not_true_eq_false, not_false_eq_true, true_and, and_true, false_and, and_false, true_or, or_true, false_or, or_false, if_true, if_false, Int.reduceAdd, Int.reduceMul, Int.reduceSub, Int.reduceNeg, ir, cc_isReader, R_26_0, R_26_7, R_26_9, R_26_13, C_26_4, R_168_0, R_168_5, R_168_9, R_168_12, R_168_20, R_168_24, R_168_30, R_168_34, R_168_40, C_168_6, C_168_21, K_26_2]
    · have g1 : ¬ q_g (q_u s 285 0 1) 285 0 = 0 := by
        rw [q_gu_eq rfl]
        decide
      dsimp only
      rw [R_335_0]
      simp (disch := first | omega | exact q_b_01 _) only [↓reduceIte, q_bk0, q_bk1, q_bk2, q_sg_b, q_b_0, q_b_n0, q_b_1, q_b_n1, q_b_T, q_b_F, q_sg_g, q_sg_sg, q_sg_xs, q_sg_id, q_gu_ne, q_gu_eq, q_g_fne, q_g_cpe, q_w_f, q_v_f, q_u_f, q_fn_f, q_cp_f, q_sg_pg, q_sg_hc, q_lt_t, q_lt_f, q_le_t, q_le_f, q_eq_t, q_eq_f, ne_eq, eq_self, Bool.false_eq_true, Bool.true_eq_false, not_true_eq_false, not_false_eq_true, true_and, and_true, false_and, and_false, true_or, or_true, false_or, or_false, if_true, if_false, Int.reduceAdd, Int.reduceMul, Int.reduceSub, Int.reduceNeg, ii, g1, mm_isIn, R_335_6, C_335_9, R_335_12, R_335_15, R_335_20, R_335_23, R_335_30]
end PR3
