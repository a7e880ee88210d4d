/-! WORK, of both: the call -/
section WK2
variable {d L : Nat} {xs : Nat → Int32} {s g u v : Nat → Int → Int32} {O : Nat → Int64} {c : Bool × Nat × Nat} {m T : Int → Int} {b E : Int}
theorem op_work (B : Big b s) (hb : b < 2147483646) : Op (Big (b + 1)) (fun h => EV (d + 40) 1 0 [.ref 1, .ref 312, .null] [] h) (fun h => EV (d + 40) 243 0 [.ref 285, .null, .null] [] h) L xs s O c := by
  have Tp := B.2.1
  generalize hE : q_g s 2 1 = E at *
  obtain ⟨t8, E0, E1, tT⟩ := Tp
  obtain ⟨t, f1, f2, f3, f4, f5⟩ := cc_wparse (d := d + 24) (L := L) (xs := xs) (O := O) (c := c) (s := s) (T := fun j => if 0 ≤ j ∧ j < E then q_g s 290 j else 0) (E := E) hE E0 E1 (fun j j0 j1 => by
    rw [if_pos ⟨j0, j1⟩]
    exact tT j j0 j1)
  have H : TX (fun j => if 0 ≤ j ∧ j < E then q_g s 290 j else 0) E := ⟨E0, E1, fun j j0 j1 => by
    show 0 ≤ (if 0 ≤ j ∧ j < E then q_g s 290 j else 0) ∧ (if 0 ≤ j ∧ j < E then q_g s 290 j else 0) ≤ 255
    rw [if_pos ⟨j0, j1⟩]
    exact (tT j j0 j1).2⟩
  have hTT : ∀ j, 0 ≤ j → j < E → q_g s 290 j = (fun j => if 0 ≤ j ∧ j < E then q_g s 290 j else 0) j := fun j j0 j1 => (if_pos ⟨j0, j1⟩).symm
  generalize hT : (fun j => if 0 ≤ j ∧ j < E then q_g s 290 j else 0) = T at *
  have I := B.1.2.1
  have Hs := B.1.1
  have Ls := B.1.2.2
  have tN : ∀ k z, ¬ (k = 2 ∧ (z = 1 ∨ z = 5 ∨ z = 6)) → ¬ (4 ≤ k ∧ k ≤ 6) → ¬ (68 ≤ k ∧ k ≤ 70) → t k z = s k z := fun k z h1 h2 h3 => by
    by_cases k2 : k = 2
    · subst k2
      exact f2 z (by omega) (by omega) (by omega)
    · exact f1 k z k2 (by omega) (by omega) (by omega) (by omega) (by omega) (by omega)
  have tg : ∀ k z, ¬ (k = 2 ∧ (z = 1 ∨ z = 5 ∨ z = 6)) → ¬ (4 ≤ k ∧ k ≤ 6) → ¬ (68 ≤ k ∧ k ≤ 70) → q_g t k z = q_g s k z := fun k z h1 h2 h3 => by
    show (t k z).toInt = _
    rw [tN k z h1 h2 h3]
    rfl
  generalize hm : q_g s 286 = m at *
  have Ht : RB m t 7 := rb_k Hs (fun k z h1 h2 => tN k z (by omega) (by omega) (by omega))
  have i6 := I.2.2.1
  -- refused: memory gg of the class, the reference leaves what it found
  have back : ∀ (gg : Nat → Int → Int32) (v : Nat → Int → Int32) (vv : Nat → Int → Int32) (e x : Int), (∀ k z, relz k z → ¬ (k = 2 ∧ (z = 1 ∨ z = 6)) → gg k z = s k z) → q_g gg 2 1 = 0 → q_g gg 2 6 = e → q_g gg 286 = m → WF m gg v → q_g v 285 12 = e → (∀ k z, ¬ (294 ≤ k ∧ k ≤ 306) → ¬ (k = 285 ∧ (z = 0 ∨ z = 25 ∨ z = 26 ∨ z = 29 ∨ z = 34 ∨ z = 35 ∨ z = 36 ∨ z = 39)) → vv k z = v k z) → q_g vv 285 0 = x → Big (b + 1) (q_fn vv 286 0 1049 (q_g vv 288)) ∧ q_g (q_fn vv 286 0 1049 (q_g vv 288)) 285 0 = x := fun gg v vv e x a1 a2 a3 a4 a5 a6 a7 a8 => by
    have row := wback_row (x := 0) a4 a5 (u := vv) (fun k z hk => a7 k z (by omega) (by omega))
    have fr : ∀ k z, k ≠ 286 → k ≠ 288 → ¬ (292 ≤ k ∧ k ≤ 306) → ¬ (k = 285 ∧ (z = 0 ∨ 8 ≤ z ∧ z ≤ 13 ∨ z = 19 ∨ z = 25 ∨ z = 26 ∨ z = 29 ∨ z = 34 ∨ z = 35 ∨ z = 36 ∨ z = 39)) → q_fn vv 286 0 1049 (q_g vv 288) k z = gg k z := fun k z h1 h2 h3 h4 => by rw [q_fn_n (by omega), a7 k z (by omega) (by omega), a5.2.2 k z (by omega) (by omega) (by omega) h2 (by omega)]
    have g2 : ∀ z, q_g (q_fn vv 286 0 1049 (q_g vv 288)) 2 z = q_g gg 2 z := fun z => by
      show (q_fn vv 286 0 1049 (q_g vv 288) 2 z).toInt = _
      rw [fr 2 z (by omega) (by omega) (by omega) (by omega)]
      rfl
    have gv : ∀ z, z = 8 ∨ z = 12 → q_g (q_fn vv 286 0 1049 (q_g vv 288)) 285 z = q_g v 285 z := fun z hz => by
      rw [q_g_fne (by omega)]
      show (vv 285 z).toInt = _
      rw [a7 285 z (by omega) (by omega)]
      rfl
    refine ⟨Big_wk B (by omega) (fun k z hz h1 h2 h3 => ?_) ?_ ?_ ?_ (fun z hz => by rw [row, hm]) ?_ (by rw [row]; exact Inv_mono I (by omega)), by rw [q_g_fne (by omega), a8]⟩
    · have hz' := hz
      unfold relz relc at hz'
      rw [fr k z h2 (by omega) (by omega) (by omega), a1 k z hz (by omega)]
    · rw [g2 1, a2]
    · rw [gv 8 (by omega), a5.1]
    · rw [gv 12 (by omega), g2 6, a6, a3]
    · rw [row]
      exact rb_k Hs (fun k z h1 h2 => by rw [fr k z (by omega) (by omega) (by omega) (by omega), a1 k z (by unfold relz relc; omega) (by omega)])
  have pt : ∀ (gg : Nat → Int → Int32), (∀ k z, relz k z → ¬ (7 ≤ k ∧ k ≤ 20) → ¬ (k = 71 ∧ z = 1) → ¬ (k = 2 ∧ (z = 1 ∨ z = 6)) → gg k z = s k z) → q_g gg 286 = m ∧ q_g gg 285 8 = E ∧ ∀ j, 0 ≤ j → j < E → q_g gg 290 j = T j := fun gg a1 => by
    have ag : ∀ k z, relz k z → ¬ (7 ≤ k ∧ k ≤ 20) → ¬ (k = 71 ∧ z = 1) → ¬ (k = 2 ∧ (z = 1 ∨ z = 6)) → q_g gg k z = q_g s k z := fun k z h1 h2 h3 h4 => by
      show (gg k z).toInt = _
      rw [a1 k z h1 h2 h3 h4]
      rfl
    refine ⟨?_, ?_, fun j j0 j1 => ?_⟩
    · rw [← hm]
      exact funext fun z => ag 286 z (by unfold relz relc; omega) (by omega) (by omega) (by omega)
    · rw [ag 285 8 (by unfold relz relc; omega) (by omega) (by omega) (by omega), t8]
    · rw [ag 290 j (by unfold relz relc; omega) (by omega) (by omega) (by omega), hTT j j0 j1]
  have tR : ∀ k z, relz k z → ¬ (k = 2 ∧ (z = 1 ∨ z = 6)) → t k z = s k z := fun k z hz h2 => by
    unfold relz relc at hz
    exact tN k z (by omega) (by omega) (by omega)
  obtain ⟨e4, e5, e6⟩ := pt t (fun k z h1 h2 h3 h4 => tR k z h1 h4)
  cases hl : wAll T E with
  | inl e =>
    obtain ⟨p1, p2⟩ := f4 e hl
    obtain ⟨v, n', v1, v2, v3, v4⟩ := (mm_wpre (d := d) (L := L) (xs := xs) (O := O) (c := q_th c) H e4 e5 e6).1 e hl
    have g0 : q_g (q_u v 285 0 1) 285 0 = 1 := by rw [q_gu_eq rfl]; rfl
    obtain ⟨bk1, bk2⟩ := back t v (q_u v 285 0 1) e 1 tR f3 p2 e4 v4 v2 (fun k z h1 h2 => q_u_n (by omega)) g0
    refine ⟨1, 0, t, _, O, q_th c, ?_, ?_, by omega, by omega, bk2, fun h => absurd h (by omega), Or.inr rfl, bk1⟩
    · simp (disch := first | omega | exact q_b_01 _) only [↓reduceIte, q_bk0, q_bk1, q_bk2, q_sg_b, q_b_0, q_b_n0, q_b_1, q_b_n1, q_b_T, q_b_F, q_sg_g, q_sg_sg, q_sg_xs, q_sg_id, q_gu_ne, q_gu_eq, q_g_fne, q_g_cpe, q_w_f, q_v_f, q_u_f, q_fn_f, q_cp_f, q_sg_pg, q_sg_hc, q_lt_t, q_lt_f, q_le_t, q_le_f, q_eq_t, q_eq_f, ne_eq, eq_self, Bool.false_eq_true, Bool.true_eq_false, not_true_eq_false, not_false_eq_true, true_and, and_true, false_and, and_false, true_or, or_true, false_or, or_false, if_true, if_false, Int.reduceAdd, Int.reduceMul, Int.reduceSub, Int.reduceNeg, p1, R_1_0, R_1_6, R_1_8, R_1_12, R_1_15, R_1_18, C_1_3, R_138_0, R_138_7, R_138_10, R_138_18, R_138_30, R_138_38, R_138_70, R_138_74, R_138_82, R_138_97, R_138_107, R_138_114, R_138_117, R_138_132, R_138_142, R_138_149, R_138_152, R_138_171, R_138_185, R_138_192, C_138_4, C_138_67, C_138_168, C_138_189, K_1_0, K_1_4, K_1_1]
    · have er := q_g_rg v 285 12
      rw [v2] at er
      have g0' : ¬ q_g (q_u v 285 0 1) 285 0 = 0 := by omega
      dsimp only
      rw [v1]
      refine Eq.trans ?_ (mm_wback (d := d + 39) (n' := n') g0 (by omega) (by omega))
      simp (disch := first | omega | exact q_b_01 _) only [↓reduceIte, q_bk0, q_bk1, q_bk2, q_sg_b, q_b_0, q_b_n0, q_b_1, q_b_n1, q_b_T, q_b_F, q_sg_g, q_sg_sg, q_sg_xs, q_sg_id, q_gu_ne, q_gu_eq, q_g_fne, q_g_cpe, q_w_f, q_v_f, q_u_f, q_fn_f, q_cp_f, q_sg_pg, q_sg_hc, q_lt_t, q_lt_f, q_le_t, q_le_f, q_eq_t, q_eq_f, ne_eq, eq_self, Bool.false_eq_true, Bool.true_eq_false, not_true_eq_false, not_false_eq_true, true_and, and_true, false_and, and_false, true_or, or_true, false_or, or_false, if_true, if_false, Int.reduceAdd, Int.reduceMul, Int.reduceSub, Int.reduceNeg, v2, g0', R_243_18, R_243_28, R_243_48, R_243_51]
  | inr w =>
    obtain ⟨p1, p2, p3⟩ := f5 w hl
    have wg := wAll_g hl
    obtain ⟨q1, q2, q3, q4, q5, q6⟩ := p3
    have t10 : q_g t 7 10 = m 0 := rb_texts Ht
    by_cases h12 : m 0 = 12
    · obtain ⟨v, n', v1, v2, v3, v4⟩ := (mm_wpre (d := d) (L := L) (xs := xs) (O := O) (c := q_th c) H e4 e5 e6).2 w hl
      have g0 : q_g (q_u v 285 0 2) 285 0 = 2 := by rw [q_gu_eq rfl]; rfl
      obtain ⟨bk1, bk2⟩ := back t v (q_u v 285 0 2) (-1) 2 tR f3 p2 e4 v4 v2 (fun k z h1 h2 => q_u_n (by omega)) g0
      refine ⟨2, 0, t, _, O, q_th c, ?_, ?_, by omega, by omega, bk2, fun h => absurd h (by omega), Or.inr rfl, bk1⟩
      · simp (disch := first | omega | exact q_b_01 _) only [↓reduceIte, q_bk0, q_bk1, q_bk2, q_sg_b, q_b_0, q_b_n0, q_b_1, q_b_n1, q_b_T, q_b_F, q_sg_g, q_sg_sg, q_sg_xs, q_sg_id, q_gu_ne, q_gu_eq, q_g_fne, q_g_cpe, q_w_f, q_v_f, q_u_f, q_fn_f, q_cp_f, q_sg_pg, q_sg_hc, q_lt_t, q_lt_f, q_le_t, q_le_f, q_eq_t, q_eq_f, ne_eq, eq_self, Bool.false_eq_true, Bool.true_eq_false, not_true_eq_false, not_false_eq_true, true_and, and_true, false_and, and_false, true_or, or_true, false_or, or_false, if_true, if_false, Int.reduceAdd, Int.reduceMul, Int.reduceSub, Int.reduceNeg, p1, t10, h12, R_1_0, R_1_6, R_1_8, R_1_12, R_1_15, R_1_18, C_1_3, R_138_0, R_138_7, R_138_10, R_138_18, R_138_30, R_138_38, R_138_70, R_138_74, R_138_82, R_138_97, R_138_107, R_138_114, R_138_117, R_138_132, R_138_142, R_138_149, R_138_152, R_138_171, R_138_185, R_138_192, C_138_4, C_138_67, C_138_168, C_138_189, K_1_0, K_1_4, K_1_1]
      · have vr : q_g v 286 0 = 12 := by
          rw [← h12, ← e4]
          show (v 286 0).toInt = _
          rw [v4.2.2 286 0 (by omega) (by omega) (by omega) (by omega) (by omega)]
          rfl
        have g0' : ¬ q_g (q_u v 285 0 2) 285 0 = 0 := by omega
        dsimp only
        rw [v1]
        refine Eq.trans ?_ (mm_wback (d := d + 39) (n' := n') g0 (by omega) (by omega))
        simp (disch := first | omega | exact q_b_01 _) only [↓reduceIte, q_bk0, q_bk1, q_bk2, q_sg_b, q_b_0, q_b_n0, q_b_1, q_b_n1, q_b_T, q_b_F, q_sg_g, q_sg_sg, q_sg_xs, q_sg_id, q_gu_ne, q_gu_eq, q_g_fne, q_g_cpe, q_w_f, q_v_f, q_u_f, q_fn_f, q_cp_f, q_sg_pg, q_sg_hc, q_lt_t, q_lt_f, q_le_t, q_le_f, q_eq_t, q_eq_f, ne_eq, eq_self, Bool.false_eq_true, Bool.true_eq_false, not_true_eq_false, not_false_eq_true, true_and, and_true, false_and, and_false, true_or, or_true, false_or, or_false, if_true, if_false, Int.reduceAdd, Int.reduceMul, Int.reduceSub, Int.reduceNeg, v2, vr, g0', R_243_18, R_243_32, R_243_38, R_243_43, R_243_48, R_243_51]
    · -- the rows that the text sets
      have rr : 0 ≤ (if w.2.2.2.1 = -1 then m 3 else w.2.2.2.1) ∧ (if w.2.2.2.1 = -1 then m 3 else w.2.2.2.1) ≤ 100 := by
        have := wg.2.1
        split
        · omega
        · omega
      have kr : 0 ≤ (if w.2.2.2.2 = -1 then m 5 else w.2.2.2.2) ∧ (if w.2.2.2.2 = -1 then m 5 else w.2.2.2.2) ≤ 9999 := by
        have := wg.2.2
        split
        · omega
        · omega
      generalize hrr : (if w.2.2.2.1 = -1 then m 3 else w.2.2.2.1) = r at rr
      generalize hkk : (if w.2.2.2.2 = -1 then m 5 else w.2.2.2.2) = k5 at kr
      have I1 : Inv (up (up m 3 r) 5 k5) b := Inv_tick (Inv_one I (Or.inr ⟨rfl, rr.1, rr.2⟩)) kr.1 kr.2
      have un : ∀ z, z ≠ 3 → z ≠ 5 → up (up m 3 r) 5 k5 z = m z := fun z h1 h2 => by rw [up_ne h2, up_ne h1]
      have SP : SmP m (up (up m 3 r) 5 k5) := ⟨fun p w p0 p1 w0 w1 => un _ (by omega) (by omega), fun r r0 r1 => ⟨un _ (by omega) (by omega), un _ (by omega) (by omega)⟩⟩
      -- the reference behind its reading
      have vrow : ∀ {gg v : Nat → Int → Int32}, q_g gg 286 = m → MW (m 3) (m 5) w v → WF m gg v → q_g v 286 = up (up m 3 r) 5 k5 := fun {gg v} h1 h2 h3 => by
        funext z
        by_cases z5 : z = 5
        · rw [z5, up_eq rfl, h2.2.2.2.2.2, hkk]
        · by_cases z3 : z = 3
          · rw [z3, up_ne (by omega), up_eq rfl, h2.2.2.2.2.1, hrr]
          · rw [un z z3 z5, ← h1]
            show (v 286 z).toInt = _
            rw [h3.2.2 286 z (by omega) (by omega) (by omega) (by omega) (by omega)]
            rfl
      obtain ⟨v0, n0', -, -, v03, v04⟩ := (mm_wpre (d := d) (L := L) (xs := xs) (O := O) (c := c) H e4 e5 e6).2 w hl
      have ev0 := vrow e4 v03 v04
      have plw : ∀ {gg v : Nat → Int → Int32}, q_g gg 286 = m → MW (m 3) (m 5) w v → WF m gg v → PlW (up (up m 3 r) 5 k5) w.1 (q_g t 69) (q_g t 70) (q_u v 285 0 0) := fun {gg v} h1 h2 h3 => ⟨by rw [q_u_f (by omega)]; exact vrow h1 h2 h3, by rw [q_gu_ne (by omega)]; exact h2.1, fun i i0 i1 => by
        rw [q_gu_ne (by omega), q_gu_ne (by omega), (h2.2.2.2.1 i i0 i1).1, (h2.2.2.2.1 i i0 i1).2, (q4 i i0 i1).1, (q4 i i0 i1).2]
        exact ⟨rfl, rfl⟩⟩
      have key := both_makeX (d := d + 23) (L := L) (xs := xs) (s := t) (O := O) (c := c) (n := w.1) (x2 := 69) (x3 := 70) Ht I SP I1 ev0 hb ly_a69 ly_a70 (by decide) (by decide) (by omega) (by omega) q2 q3 (by omega) (by omega) (fun i i0 i1 => by
        rw [(q4 i i0 i1).1, (q4 i i0 i1).2]
        exact wg.1 i i0 i1)
      -- done: what both leave
      have fin : ∀ (a : Int) (u : Nat → Int → Int32) (Pd : (Nat → Int → Int32) → Prop), EV (d + 38) 86 0 [.ref 241, .ref 7, .ref 69, .ref 70, .int (q_I (w.1)), .null] [] (q_h L xs (t) O c) = some (.inl (some (.int (q_I (a)))), q_h L xs (u) O c) → 0 ≤ a → a < 100 → PlnF t u → (∀ v, Pd v → Pd (q_u v 285 0 0)) → (∀ (w' : Nat → Int → Int32) (d : Nat) (O : Nat → Int64) (c : Bool × Nat × Nat), PlW (up (up m 3 r) 5 k5) w.1 (q_g t 69) (q_g t 70) w' → ∃ v, EV (d + 18) 278 0 [.ref 285, .null] [] (q_h L xs (w') O c) = some (.inl none, q_h L xs (v) O c) ∧ q_g v 285 36 = 0 ∧ Pd v ∧ MpF w' v) → (∃ w5 ans, EV (d + 38) 97 0 [.ref 241, .ref 7, .ref 49, .int (q_I (1000)), .int (q_I (0)), .null, .null] [] (q_h L xs (q_u (q_u u 7 6 r) 7 8 k5) O c) = some (.inl (some (.int (q_I (ans)))), q_h L xs (w5) O c) ∧ CrF (q_u (q_u u 7 6 r) 7 8 k5) w5 ∧ q_g w5 7 10 = m 0 ∧ ∀ (v : Nat → Int → Int32) (d : Nat) (O : Nat → Int64) (c : Bool × Nat × Nat), q_g v 286 = up (up m 3 r) 5 k5 → Pd v → ∃ t5 an, EV (d + 37) 285 0 [.ref 285, .int (q_I (2000000000)), .int (q_I (0)), .null, .null] [] (q_h L xs (v) O c) = some (.inl (some (.int (q_I (an)))), q_h L xs (t5) O c) ∧ RB (q_g t5 286) w5 7 ∧ Inv (q_g t5 286) (b + 1) ∧ (∀ z, z < 0 ∨ z = 0 ∨ z = 1 ∨ z = 2 ∨ z = 3 ∨ z = 5 ∨ 1049 ≤ z → q_g t5 286 z = up (up m 3 r) 5 k5 z) ∧ PfF v t5) → Op (Big (b + 1)) (fun h => EV (d + 40) 1 0 [.ref 1, .ref 312, .null] [] h) (fun h => EV (d + 40) 243 0 [.ref 285, .null, .null] [] h) L xs s O c := fun a u Pd m1 a0 a1 fu hPd pl ⟨w5, ans, c1, c2, c3, c4⟩ => by
        have ug : ∀ k z, ¬ (241 ≤ k ∧ k ≤ 260) → q_g u k z = q_g t k z := fun k z h => by
          show (u k z).toInt = _
          rw [fu k z h]
          rfl
        have st := cc_wset (d := d + 39) (L := L) (xs := xs) (u := u) (O := O) (c := c) (r1 := w.2.2.2.1) (k1 := w.2.2.2.2) (r0 := m 3) (k0 := m 5) (by rw [ug 68 4 (by omega)]; exact q5) (by rw [ug 68 5 (by omega)]; exact q6) (by rw [ug 7 6 (by omega)]; exact rb_risk Ht) (by rw [ug 7 8 (by omega)]; exact rb_tick Ht) wg.2.1.1 wg.2.1.2 wg.2.2.1 wg.2.2.2
        rw [hrr, hkk] at st
        generalize hU : q_u (q_u w5 7 10 (m 0 + 1)) 71 1 0 = U
        have U10 : q_g U 7 10 = m 0 + 1 := by rw [← hU, q_gu_ne (by omega), q_gu_eq rfl, q_sg_id (by omega) (by omega)]
        have fU : ∀ k z, ¬ (7 ≤ k ∧ k ≤ 20) → k ≠ 54 → ¬ (241 ≤ k ∧ k ≤ 260) → ¬ (k = 71 ∧ z = 1) → U k z = t k z := fun k z h1 h2 h3 h4 => by rw [← hU, q_u_n h4, q_u_n (by omega), c2 k z h1 (by omega) h2, q_u_n (by omega), q_u_n (by omega), fu k z h3]
        have cls : EV (d + 40) 1 0 [.ref 1, .ref 312, .null] [] (q_h L xs s O c) = some (.inl (some (.int (q_I 0))), q_h L xs U (vp_updL O 0 (q_I (m 0 + 1)).toInt64) c) := by
          have wk : EV (d + 39) 138 0 [.ref 1] [] (q_h L xs s O c) = some (.inl (some (.int (q_I (m 0 + 1)))), q_h L xs (U) O c) := by
            have e0 : EV (d + 39) 138 82 [.ref 1] [] (q_h L xs (u) O c) = some (.inl (some (.int (q_I (m 0 + 1)))), q_h L xs (U) O c) := by
              rw [st]
              simp (disch := first | omega | exact q_b_01 _) only [↓reduceIte, q_bk0, q_bk1, q_bk2, q_sg_b, q_b_0, q_b_n0, q_b_1, q_b_n1, q_b_T, q_b_F, q_sg_g, q_sg_sg, q_sg_xs, q_sg_id, q_gu_ne, q_gu_eq, q_g_fne, q_g_cpe, q_w_f, q_v_f, q_u_f, q_fn_f, q_cp_f, q_sg_pg, q_sg_hc, q_lt_t, q_lt_f, q_le_t, q_le_f, q_eq_t, q_eq_f, ne_eq, eq_self, Bool.false_eq_true, Bool.true_eq_false, not_true_eq_false, not_false_eq_true, true_and, and_true, false_and, and_false, true_or, or_true, false_or, or_false, if_true, if_false, Int.reduceAdd, Int.reduceMul, Int.reduceSub, Int.reduceNeg, c1, c3, R_138_152, C_138_168, R_138_171, R_138_185, C_138_189, R_64_0, R_64_5, hU, U10, R_138_192]
            rw [← e0]
            simp (disch := first | omega | exact q_b_01 _) only [↓reduceIte, q_bk0, q_bk1, q_bk2, q_sg_b, q_b_0, q_b_n0, q_b_1, q_b_n1, q_b_T, q_b_F, q_sg_g, q_sg_sg, q_sg_xs, q_sg_id, q_gu_ne, q_gu_eq, q_g_fne, q_g_cpe, q_w_f, q_v_f, q_u_f, q_fn_f, q_cp_f, q_sg_pg, q_sg_hc, q_lt_t, q_lt_f, q_le_t, q_le_f, q_eq_t, q_eq_f, ne_eq, eq_self, Bool.false_eq_true, Bool.true_eq_false, not_true_eq_false, not_false_eq_true, true_and, and_true, false_and, and_false, true_or, or_true, false_or, or_false, if_true, if_false, Int.reduceAdd, Int.reduceMul, Int.reduceSub, Int.reduceNeg, p1, t10, q1, m1, R_138_0, C_138_4, R_138_7, R_138_18, R_138_38, C_138_67, R_138_70]
          simp (disch := first | omega | exact q_b_01 _) only [↓reduceIte, q_bk0, q_bk1, q_bk2, q_sg_b, q_b_0, q_b_n0, q_b_1, q_b_n1, q_b_T, q_b_F, q_sg_g, q_sg_sg, q_sg_xs, q_sg_id, q_gu_ne, q_gu_eq, q_g_fne, q_g_cpe, q_w_f, q_v_f, q_u_f, q_fn_f, q_cp_f, q_sg_pg, q_sg_hc, q_lt_t, q_lt_f, q_le_t, q_le_f, q_eq_t, q_eq_f, ne_eq, eq_self, Bool.false_eq_true, Bool.true_eq_false, not_true_eq_false, not_false_eq_true, true_and, and_true, false_and, and_false, true_or, or_true, false_or, or_false, if_true, if_false, Int.reduceAdd, Int.reduceMul, Int.reduceSub, Int.reduceNeg, wk, R_1_0, R_1_6, R_1_8, R_1_12, R_1_15, R_1_18, C_1_3, q_lst, K_1_0, K_1_4, K_1_1]
        obtain ⟨y4, y5, y6⟩ := pt U (fun k z h1 h2 h3 h4 => by
          rw [fU k z h2 (by unfold relz relc at h1; omega) (by unfold relz relc at h1; omega) h3, tR k z h1 h4])
        obtain ⟨v, n', v1, v2, v3, v4⟩ := (mm_wpre (d := d) (L := L) (xs := xs) (O := vp_updL O 0 (q_I (m 0 + 1)).toInt64) (c := c) H y4 y5 y6).2 w hl
        obtain ⟨x, x1, x2, x3, x4⟩ := pl (q_u v 285 0 0) (d + 21) (vp_updL O 0 (q_I (m 0 + 1)).toInt64) c (plw y4 v3 v4)
        have ev := vrow y4 v3 v4
        have ex : q_g x 286 = up (up m 3 r) 5 k5 := by
          rw [← ev]
          exact funext fun z => by
            show (x 286 z).toInt = _
            rw [x4 286 z (by omega) (by omega), q_u_n (by omega)]
            rfl
        have e8 : q_g (q_u x 285 0 0) 286 = up (up m 3 r) 5 k5 := by rw [q_u_f (by omega), ex]
        obtain ⟨t5, an, h1, h2, h3, h4, h5⟩ := c4 (q_u x 285 0 0) (d + 2) (vp_updL O 0 (q_I (m 0 + 1)).toInt64) c e8 (hPd x x3)
        have r0 : q_g t5 286 0 = m 0 := by rw [h4 0 (by omega), un 0 (by omega) (by omega)]
        have r0v : q_g v 286 0 = m 0 := by rw [ev, un 0 (by omega) (by omega)]
        generalize hF : q_u (q_u t5 286 0 (m 0 + 1)) 285 6 0 = F
        have Fv : ∀ k z, k ≠ 286 → ¬ (k = 285 ∧ (z = 0 ∨ z = 6 ∨ z = 9 ∨ z = 10 ∨ z = 11 ∨ z = 13 ∨ z = 15 ∨ z = 16 ∨ z = 40 ∨ z = 25 ∨ z = 26 ∨ z = 29 ∨ z = 34 ∨ z = 35 ∨ z = 36 ∨ z = 39)) → ¬ (291 ≤ k ∧ k ≤ 306) → F k z = v k z := fun k z j1 j2 j3 => by rw [← hF, q_u_n (by omega), q_u_n (by omega), h5 k z j1 (by omega) (by omega), q_u_n (by omega), x4 k z (by omega) (by omega), q_u_n (by omega)]
        have FU : ∀ k z, k ≠ 286 → k ≠ 288 → ¬ (k = 285 ∧ (z = 0 ∨ z = 6 ∨ 8 ≤ z ∧ z ≤ 13 ∨ z = 19 ∨ z = 15 ∨ z = 16 ∨ z = 40 ∨ z = 25 ∨ z = 26 ∨ z = 29 ∨ z = 34 ∨ z = 35 ∨ z = 36 ∨ z = 39)) → ¬ (291 ≤ k ∧ k ≤ 306) → F k z = U k z := fun k z j1 j2 j3 j4 => by rw [Fv k z j1 (by omega) j4, v4.2.2 k z (by omega) (by omega) (by omega) j2 (by omega)]
        have FUg : ∀ k z, k ≠ 286 → k ≠ 288 → k ≠ 285 → ¬ (291 ≤ k ∧ k ≤ 306) → q_g F k z = q_g U k z := fun k z j1 j2 j3 j4 => by
          show (F k z).toInt = _
          rw [FU k z j1 j2 (by omega) j4]
          rfl
        have Ft : ∀ z, q_g F 2 z = q_g t 2 z := fun z => by
          rw [FUg 2 z (by omega) (by omega) (by omega) (by omega)]
          show (U 2 z).toInt = _
          rw [fU 2 z (by omega) (by omega) (by omega) (by omega)]
          rfl
        have F6 : q_g F 286 = up (q_g t5 286) 0 (m 0 + 1) := by
          rw [← hF, q_u_f (by omega), q_g_u286, q_sg_id (by omega) (by omega)]
        have Fg : ∀ z, z = 8 ∨ z = 12 → q_g F 285 z = q_g v 285 z := fun z hz => by
          show (F 285 z).toInt = _
          rw [Fv 285 z (by omega) (by omega) (by omega)]
          rfl
        have F0 : q_g F 286 0 = m 0 + 1 := by rw [F6, up_eq rfl]
        have F00 : q_g F 285 0 = 0 := by
          rw [← hF, q_gu_ne (by omega), q_gu_ne (by omega)]
          show (t5 285 0).toInt = 0
          rw [h5 285 0 (by omega) (by omega) (by omega)]
          show q_g (q_u x 285 0 0) 285 0 = 0
          rw [q_gu_eq rfl]
          rfl
        refine ⟨0, m 0 + 1, U, F, vp_updL O 0 (q_I (m 0 + 1)).toInt64, c, cls, ?_, by omega, by omega, F00, fun _ => rfl, Or.inl rfl, Big_wc B (by omega) (fun k z hz j1 j2 j3 j4 j5 => ?_) ?_ ?_ ?_ ?_ ?_ (fun z hz => ?_) ?_ ?_⟩
        · have g0 : q_g (q_u v 285 0 0) 285 0 = 0 := by rw [q_gu_eq rfl]; rfl
          have g1 : q_g (q_u x 285 0 0) 285 0 = 0 := by rw [q_gu_eq rfl]; rfl
          dsimp only
          rw [v1]
          simp (disch := first | omega | exact q_b_01 _) only [↓reduceIte, q_bk0, q_bk1, q_bk2, q_sg_b, q_b_0, q_b_n0, q_b_1, q_b_n1, q_b_T, q_b_F, q_sg_g, q_sg_sg, q_sg_xs, q_sg_id, q_gu_ne, q_gu_eq, q_g_fne, q_g_cpe, q_w_f, q_v_f, q_u_f, q_fn_f, q_cp_f, q_sg_pg, q_sg_hc, q_lt_t, q_lt_f, q_le_t, q_le_f, q_eq_t, q_eq_f, ne_eq, eq_self, Bool.false_eq_true, Bool.true_eq_false, not_true_eq_false, not_false_eq_true, true_and, and_true, false_and, and_false, true_or, or_true, false_or, or_false, if_true, if_false, Int.reduceAdd, Int.reduceMul, Int.reduceSub, Int.reduceNeg, v2, r0v, g0, x1, x2, g1, h1, r0, hF, F0, R_243_18, R_243_32, R_243_38, R_243_47, R_243_48, R_243_51, R_243_58, C_243_59, R_243_62, R_243_74, R_243_75, R_243_78, R_243_91, C_243_95, R_243_98, R_243_106, R_243_109, R_243_114, R_243_120]
        · have hz' := hz
          unfold relz relc at hz'
          rw [FU k z j2 (by omega) (by omega) (by omega), fU k z j1 (by omega) (by omega) j4, tR k z hz (by omega)]
        · rw [Ft 1, f3]
        · rw [Fg 8 (by omega), v4.1]
        · rw [Fg 12 (by omega), Ft 6, v2, p2]
        · rw [FUg 71 1 (by omega) (by omega) (by omega) (by omega), ← hU, q_gu_eq rfl]
          rfl
        · rw [← hF, q_gu_eq rfl]
          rfl
        · rw [F6, up_ne (by omega), h4 z (by omega), un z (by omega) (by omega), hm]
        · rw [F6]
          refine rb_k (RB_texts h2 (fun q q0 q1 => (inv_rows h3 q q0 q1).2) h3.2.1.2.1 (v := m 0 + 1) (by omega) (by omega)) (fun k z j1 j2 => ?_)
          rw [FU k z (by omega) (by omega) (by omega) (by omega), ← hU, q_u_n (by omega)]
        · rw [F6]
          exact Inv_one h3 (Or.inl ⟨rfl, by omega, by omega⟩)
      have Hr : ∀ {u : Nat → Int → Int32}, PlnF t u → RB (up (up m 3 r) 5 k5) (q_u (q_u u 7 6 r) 7 8 k5) 7 := fun {u} fu => by
        have Hu : RB m u 7 := rb_k Ht (fun k z h1 h2 => fu k z (by omega))
        have I3 : Inv (up m 3 r) b := Inv_one I (Or.inr ⟨rfl, rr.1, rr.2⟩)
        exact RB_tick (RB_risk Hu (fun q q0 q1 => (inv_rows I q q0 q1).2) I.2.1.2.1 rr.1 (by omega)) (fun q q0 q1 => (inv_rows I3 q q0 q1).2) I3.2.1.2.1 kr.1 (by omega)
      rcases key with ⟨u, u1, u2, u3, u4⟩ | ⟨u, u1, u3, u4⟩ | ⟨T', Lf, sc, u, u0, u1, u2, u3, u4⟩
      · refine fin 0 u (fun v => q_g v 285 39 = 0) u1 (by omega) (by omega) u3 (fun v hv => by rw [q_gu_ne (by omega)]; exact hv) u4 ⟨q_u (q_u u 7 6 r) 7 8 k5, 0, cc_co0 (by rw [q_gu_ne (by omega), q_gu_ne (by omega), u2]), fun _ _ _ _ _ => rfl, by rw [rb_texts (Hr u3), un 0 (by omega) (by omega)], fun v d O c ev h39 => ?_⟩
        have e9 : q_g (q_u v 285 40 0) 286 = up (up m 3 r) 5 k5 := by rw [q_u_f (by omega), ev]
        exact ⟨q_u v 285 40 0, 0, mm_pfm0 (d := d + 33) h39, by rw [e9]; exact Hr u3, by rw [e9]; exact Inv_mono I1 (by omega), fun z hz => by rw [e9], fun k z j1 j2 j3 => q_u_n (by omega)⟩
      · have uR : ∀ k z, relz k z → ¬ (k = 2 ∧ (z = 1 ∨ z = 6)) → u k z = s k z := fun k z hz h2 => by
          rw [u3 k z (by unfold relz relc at hz; omega), tR k z hz h2]
        obtain ⟨y4, y5, y6⟩ := pt u (fun k z h1 h2 h3 h4 => uR k z h1 h4)
        have u2g : ∀ z, q_g u 2 z = q_g t 2 z := fun z => by
          show (u 2 z).toInt = _
          rw [u3 2 z (by omega)]
          rfl
        obtain ⟨v, n', v1, v2, v3, v4⟩ := (mm_wpre (d := d) (L := L) (xs := xs) (O := O) (c := q_th c) H y4 y5 y6).2 w hl
        obtain ⟨x, x1, x2, x3, x4⟩ := u4 (q_u v 285 0 0) (d + 21) O (q_th c) (plw y4 v3 v4)
        have r0v : q_g v 286 0 = m 0 := by rw [vrow y4 v3 v4, un 0 (by omega) (by omega)]
        have g0 : q_g (q_u x 285 0 3) 285 0 = 3 := by rw [q_gu_eq rfl]; rfl
        obtain ⟨bk1, bk2⟩ := back u v (q_u x 285 0 3) (-1) 3 uR (by rw [u2g, f3]) (by rw [u2g, p2]) y4 v4 v2 (fun k z h1 h2 => by rw [q_u_n (by omega), x4 k z (by omega) (by omega), q_u_n (by omega)]) g0
        refine ⟨3, 0, u, _, O, q_th c, ?_, ?_, by omega, by omega, bk2, fun h => absurd h (by omega), Or.inr rfl, bk1⟩
        · simp (disch := first | omega | exact q_b_01 _) only [↓reduceIte, q_bk0, q_bk1, q_bk2, q_sg_b, q_b_0, q_b_n0, q_b_1, q_b_n1, q_b_T, q_b_F, q_sg_g, q_sg_sg, q_sg_xs, q_sg_id, q_gu_ne, q_gu_eq, q_g_fne, q_g_cpe, q_w_f, q_v_f, q_u_f, q_fn_f, q_cp_f, q_sg_pg, q_sg_hc, q_lt_t, q_lt_f, q_le_t, q_le_f, q_eq_t, q_eq_f, ne_eq, eq_self, Bool.false_eq_true, Bool.true_eq_false, not_true_eq_false, not_false_eq_true, true_and, and_true, false_and, and_false, true_or, or_true, false_or, or_false, if_true, if_false, Int.reduceAdd, Int.reduceMul, Int.reduceSub, Int.reduceNeg, p1, t10, q1, u1, R_1_0, R_1_6, R_1_8, R_1_12, R_1_15, R_1_18, C_1_3, R_138_0, R_138_7, R_138_10, R_138_18, R_138_30, R_138_38, R_138_70, R_138_74, R_138_82, R_138_97, R_138_107, R_138_114, R_138_117, R_138_132, R_138_142, R_138_149, R_138_152, R_138_171, R_138_185, R_138_192, C_138_4, C_138_67, C_138_168, C_138_189, K_1_0, K_1_4, K_1_1]
        · have g00 : q_g (q_u v 285 0 0) 285 0 = 0 := by rw [q_gu_eq rfl]; rfl
          dsimp only
          rw [v1]
          refine Eq.trans ?_ (mm_wback (d := d + 39) (n' := n') g0 (by omega) (by omega))
          simp (disch := first | omega | exact q_b_01 _) only [↓reduceIte, q_bk0, q_bk1, q_bk2, q_sg_b, q_b_0, q_b_n0, q_b_1, q_b_n1, q_b_T, q_b_F, q_sg_g, q_sg_sg, q_sg_xs, q_sg_id, q_gu_ne, q_gu_eq, q_g_fne, q_g_cpe, q_w_f, q_v_f, q_u_f, q_fn_f, q_cp_f, q_sg_pg, q_sg_hc, q_lt_t, q_lt_f, q_le_t, q_le_f, q_eq_t, q_eq_f, ne_eq, eq_self, Bool.false_eq_true, Bool.true_eq_false, not_true_eq_false, not_false_eq_true, true_and, and_true, false_and, and_false, true_or, or_true, false_or, or_false, if_true, if_false, Int.reduceAdd, Int.reduceMul, Int.reduceSub, Int.reduceNeg, v2, r0v, g00, x1, x2, R_243_18, R_243_32, R_243_38, R_243_47, R_243_48, R_243_51, R_243_58, C_243_59, R_243_62, R_243_70, R_243_75]
      · obtain ⟨Lv, D, PT, LP, OL, DP, Sc, Kc, kn, -⟩ := id u0
        have s0 := Sc.1
        have s8 := Sc.2.1
        have cp := TK_ct (inv_tk I1 (by omega)) (show 0 ≤ cNo T' + sc by omega) Kc
        have Lu : LawP (up (up m 3 r) 5 k5) (q_g (q_u (q_u u 7 6 r) 7 8 k5) 49) (q_g (q_u (q_u u 7 6 r) 7 8 k5) 50) (q_g (q_u (q_u u 7 6 r) 7 8 k5) 51) (q_g (q_u (q_u u 7 6 r) 7 8 k5) 52) (q_g (q_u (q_u u 7 6 r) 7 8 k5) 53) := LawP_sm (LawP_ext Ls (fun z hz => un z (by omega) (by omega))) (fun k z h1 h2 => by rw [q_u_n (by omega), q_u_n (by omega), u3 k z (by omega), tN k z (by omega) (by omega) (by omega)])
        obtain ⟨w5, ans, w1, w2, w3, w4⟩ := both_perf (d := d + 32) (L := L) (xs := xs) (s := q_u (q_u u 7 6 r) 7 8 k5) (O := O) (c := c) (dr := false) (pw := 1000) (pw' := 2000000000) I1 hb u0 (PlanC_sm u2 (fun k z h1 h2 => by rw [q_u_n (by omega), q_u_n (by omega)])) (Hr u3) Lu (by omega) (by omega) (by omega) (by omega) (Or.inr (Or.inr ⟨by omega, by omega⟩))
        have pdm : ∀ v, PlanM (up (up m 3 r) 5 k5) T' Lf sc v → PlanM (up (up m 3 r) 5 k5) T' Lf sc (q_u v 285 0 0) := fun v hv => by
          unfold PlanM at hv ⊢
          rw [q_u_f (show (305 : Nat) ≠ 285 by omega), q_u_f (show (306 : Nat) ≠ 285 by omega), q_gu_ne (by omega)]
          exact hv
        refine fin (cNo T' + sc + 1) u (PlanM (up (up m 3 r) 5 k5) T' Lf sc) u1 (by omega) (by omega) u3 pdm u4 ⟨w5, ans, w1, w2, ?_, fun v d O c ev hv => ?_⟩
        · obtain ⟨v2, x1, x2, x3, x4⟩ := u4 (q_u v0 285 0 0) 0 O c (plw e4 v03 v04)
          obtain ⟨t5, -, y2, -, y4, -⟩ := w4 v2 0 O c (by
            rw [← ev0]
            exact funext fun z => by
              show (v2 286 z).toInt = _
              rw [x4 286 z (by omega) (by omega), q_u_n (by omega)]
              rfl) x3
          rw [rb_texts y2, y4 0 (by omega), un 0 (by omega) (by omega)]
        · obtain ⟨t5, y1, y2, y3, y4, y5⟩ := w4 v d O c ev hv
          exact ⟨t5, ans, y1, y2, y3, y4, y5⟩
end WK2
