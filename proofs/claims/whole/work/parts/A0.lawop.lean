/-! THE LAW is read: law() of both -/
section LOP
variable {d L : Nat} {xs : Nat → Int32} {s t u : Nat → Int → Int32} {O : Nat → Int64} {c : Bool × Nat × Nat} {b : Int} {m m' : Int → Int}
theorem Big_flt (B : Big b s) (h : ∀ k z, relz k z → ¬ (k = 2 ∧ z = 6 ∨ k = 285 ∧ z = 12) → t k z = s k z) (hf : q_g t 285 12 = q_g t 2 6) : Big b t := by
  let u : Nat → Int → Int32 := fun k z => if k = 2 ∧ z = 6 ∨ k = 285 ∧ z = 12 then s k z else t k z
  have hu : Big b u := Big_sm B (fun k z hz => by
    show (if k = 2 ∧ z = 6 ∨ k = 285 ∧ z = 12 then s k z else t k z) = s k z
    split
    · rfl
    · exact h k z hz (by assumption))
  have g : ∀ k z, ¬ (k = 2 ∧ z = 6 ∨ k = 285 ∧ z = 12) → q_g u k z = q_g t k z := fun k z hk => by
    show (if k = 2 ∧ z = 6 ∨ k = 285 ∧ z = 12 then s k z else t k z).toInt = _
    rw [if_neg hk]
    rfl
  have f : ∀ k, k ≠ 2 → k ≠ 285 → q_g u k = q_g t k := fun k a3 a4 => funext fun z => g k z (by omega)
  obtain ⟨⟨a1, a2, a3⟩, a4, a5, a6, a7⟩ := hu
  have fb : blk u = blk t := by
    funext j z
    exact g 289 _ (by omega)
  have fh : hst u = hst t := by
    funext j
    unfold hst
    rw [f 71 (by decide) (by decide)]
  rw [f 286 (by decide) (by decide)] at a1 a2 a3
  rw [f 49 (by decide) (by decide), f 50 (by decide) (by decide), f 51 (by decide) (by decide), f 52 (by decide) (by decide), f 53 (by decide) (by decide)] at a3
  rw [g 285 8 (by omega), g 2 1 (by omega), f 3 (by decide) (by decide), f 290 (by decide) (by decide)] at a4
  rw [g 285 6 (by omega), f 71 (by decide) (by decide), f 286 (by decide) (by decide), fb, fh] at a6
  rw [g 285 3 (by omega), f 1 (by decide) (by decide), f 287 (by decide) (by decide), f 61 (by decide) (by decide), f 62 (by decide) (by decide), f 63 (by decide) (by decide), f 64 (by decide) (by decide), f 65 (by decide) (by decide)] at a7
  refine ⟨⟨rb_sm a1 (fun k h1 h2 => (f k (by omega) (by omega)).symm), a2, a3⟩, a4, hf, ⟨a6.1, a6.2.1, a6.2.2.1, a6.2.2.2.1, a6.2.2.2.2.1, fun j h1 h2 => ?_⟩, a7.1, a7.2.1, fun h1 => ?_⟩
  · obtain ⟨d1, d2, d3, d4⟩ := a6.2.2.2.2.2 j h1 h2
    have := hst_rg t j
    exact ⟨rb_sm d1 (fun k h1 h2 => (f k (by omega) (by omega)).symm), d2, d3, d4⟩
  · obtain ⟨d1, d2, d3⟩ := a7.2.2 h1
    exact ⟨rb_sm d1 (fun k h1 h2 => (f k (by omega) (by omega)).symm), d2, d3⟩
/-- a text was read: it is gone, and a fault may be told -/
theorem Big_txt (B : Big b s) (h : ∀ k z, relz k z → ¬ (k = 2 ∧ (z = 1 ∨ z = 6) ∨ k = 285 ∧ (z = 8 ∨ z = 12)) → t k z = s k z) (h0 : q_g t 2 1 = 0) (h8 : q_g t 285 8 = 0) (hf : q_g t 285 12 = q_g t 2 6) : Big b t := by
  let u : Nat → Int → Int32 := fun k z => if k = 2 ∧ z = 6 ∨ k = 285 ∧ z = 12 then s k z else t k z
  have g : ∀ k z, ¬ (k = 2 ∧ z = 6 ∨ k = 285 ∧ z = 12) → q_g u k z = q_g t k z := fun k z hk => by
    show (if k = 2 ∧ z = 6 ∨ k = 285 ∧ z = 12 then s k z else t k z).toInt = _
    rw [if_neg hk]
    rfl
  have hu : Big b u := Big_tape B (fun k z hz hk => by
    show (if k = 2 ∧ z = 6 ∨ k = 285 ∧ z = 12 then s k z else t k z) = s k z
    split
    · rfl
    · exact h k z hz (by omega)) ⟨by rw [g 285 8 (by omega), g 2 1 (by omega), h0, h8], by rw [g 2 1 (by omega), h0]; omega, by rw [g 2 1 (by omega), h0]; omega, fun k k0 k1 => by
      rw [g 2 1 (by omega), h0] at k1
      omega⟩
  refine Big_flt hu (fun k z hz hk => ?_) hf
  show _ = if k = 2 ∧ z = 6 ∨ k = 285 ∧ z = 12 then s k z else t k z
  rw [if_neg hk]
theorem RI_keep (H : RB m s 7) (I : Inv m b) (e : ∀ z, 0 ≤ z → z < 1049 → z ≠ 1 → z ≠ 2 → m' z = m z) (hk : ∀ k, 7 ≤ k → k ≤ 20 → q_g u k = q_g s k) : RB m' u 7 ∧ Inv m' b := by
  have hp : ∀ p w, 0 ≤ p → p < 48 → 0 ≤ w → w < 16 → pg m' p w = pg m p w := fun p w p0 p1 w0 w1 => e _ (by omega) (by omega) (by omega) (by omega)
  have I2 := I.2.1
  have I3 := I.2.2.1
  constructor
  · refine RB_upd H I hp (fun k a1 a2 => hk k (by omega) (by omega)) (fun r r0 r1 => ?_) ?_ ?_ ?_
    · rw [hk 16 (by omega) (by omega), hk 17 (by omega) (by omega), e (9 + 2 * r) (by omega) (by omega) (by omega) (by omega), e (10 + 2 * r) (by omega) (by omega) (by omega) (by omega)]
      exact H.2.2.1 r r0 r1
    · rw [hk 7 (by omega) (by omega), hk 18 (by omega) (by omega), hk 19 (by omega) (by omega), e 8 (by omega) (by omega) (by omega) (by omega)]
      refine ⟨H.2.2.2.1.1, fun k k0 k1 => ?_⟩
      rw [e (17 + 2 * k) (by omega) (by omega) (by omega) (by omega), e (18 + 2 * k) (by omega) (by omega) (by omega) (by omega)]
      exact H.2.2.2.1.2 k k0 k1
    · rw [hk 7 (by omega) (by omega), e 3 (by omega) (by omega) (by omega) (by omega), e 4 (by omega) (by omega) (by omega) (by omega), e 5 (by omega) (by omega) (by omega) (by omega), e 7 (by omega) (by omega) (by omega) (by omega), e 0 (by omega) (by omega) (by omega) (by omega), e 6 (by omega) (by omega) (by omega) (by omega)]
      exact H.2.2.2.2.1
    · rw [hk 7 (by omega) (by omega), hk 20 (by omega) (by omega), e 6 (by omega) (by omega) (by omega) (by omega)]
      refine ⟨H.2.2.2.2.2.1, fun a w a0 a1 w0 w1 => ?_⟩
      rw [e (41 + 4 * a + w) (by omega) (by omega) (by omega) (by omega)]
      exact H.2.2.2.2.2.2 a w a0 a1 w0 w1
  · refine Inv_upd I hp (fun r r0 r1 hr => Or.inl ?_) (fun r r0 r1 => ?_) ?_ ?_
    · rw [e (9 + 2 * r) (by omega) (by omega) (by omega) (by omega)] at hr
      exact ⟨hr, e (9 + 2 * r) (by omega) (by omega) (by omega) (by omega), e (10 + 2 * r) (by omega) (by omega) (by omega) (by omega)⟩
    · rw [e (9 + 2 * r) (by omega) (by omega) (by omega) (by omega)]
      exact I.2.2.2 r r0 r1
    · rw [e 8 (by omega) (by omega) (by omega) (by omega)]
      refine ⟨I2.1, I2.2.1, fun k k0 k1 => ?_⟩
      rw [e (17 + 2 * k) (by omega) (by omega) (by omega) (by omega), e (18 + 2 * k) (by omega) (by omega) (by omega) (by omega)]
      exact I2.2.2 k k0 k1
    · rw [e 0 (by omega) (by omega) (by omega) (by omega), e 3 (by omega) (by omega) (by omega) (by omega), e 4 (by omega) (by omega) (by omega) (by omega), e 5 (by omega) (by omega) (by omega) (by omega), e 6 (by omega) (by omega) (by omega) (by omega)]
      exact I3
def bgn (s : Nat → Int → Int32) : Nat → Int → Int32 := q_u (q_u (q_u (q_u (q_u (q_u s 285 12 (-1)) 285 9 (-1)) 285 10 (q_g s 285 8)) 285 8 0) 285 11 0) 285 13 0
theorem mm_begins : EV (d) 239 0 [.ref 285] [] (q_h L xs s O c) = some (.inl none, q_h L xs (bgn s) O c) := by
  have g : q_g (q_u (q_u s 285 12 (-1)) 285 9 (-1)) 285 8 = q_g s 285 8 := by rw [q_gu_ne (by omega), q_gu_ne (by omega)]
  simp (disch := first | omega | exact q_b_01 _) only [↓reduceIte, q_bk0, q_bk1, q_bk2, q_sg_b, q_b_0, q_b_n0, q_b_1, q_b_n1, q_b_T, q_b_F, q_sg_g, q_sg_sg, q_sg_xs, q_sg_id, q_gu_ne, q_gu_eq, q_g_fne, q_g_cpe, q_w_f, q_v_f, q_u_f, q_fn_f, q_cp_f, q_sg_pg, q_sg_hc, q_lt_t, q_lt_f, q_le_t, q_le_f, q_eq_t, q_eq_f, ne_eq, eq_self, Bool.false_eq_true, Bool.true_eq_false, not_true_eq_false, not_false_eq_true, true_and, and_true, false_and, and_false, true_or, or_true, false_or, or_false, if_true, if_false, Int.reduceAdd, Int.reduceMul, Int.reduceSub, Int.reduceNeg, g, R_239_0, R_239_5, R_239_10, R_239_18, R_239_23, R_239_28, R_239_33]
  rfl
theorem bgn_n {k : Nat} {z : Int} (h : ¬ (k = 285 ∧ (8 ≤ z ∧ z ≤ 13))) : bgn s k z = s k z := by
  unfold bgn
  rw [q_u_n (by omega), q_u_n (by omega), q_u_n (by omega), q_u_n (by omega), q_u_n (by omega), q_u_n (by omega)]
theorem bgn_g {k : Nat} {z : Int} (h : ¬ (k = 285 ∧ (8 ≤ z ∧ z ≤ 13))) : q_g (bgn s) k z = q_g s k z := by
  show (bgn s k z).toInt = _
  rw [bgn_n h]
  rfl
theorem bgn_MS {T : Int → Int} {E : Int} (H : TX T E) (h8 : q_g s 285 8 = E) (hT : ∀ j, 0 ≤ j → j < E → q_g s 290 j = T j) : MS T E (bs T E 0) (bgn s) := by
  have hE := H.1
  have hE1 := H.2.1
  have g11 : q_g (bgn s) 285 11 = 0 := by
    unfold bgn
    rw [q_gu_ne (by omega), q_gu_eq rfl]
    rfl
  refine ⟨⟨?_, Or.inl ⟨?_, fun j j0 j1 => ?_⟩⟩, ?_, ?_, ?_, ?_⟩
  · unfold bgn
    rw [q_gu_ne (by omega), q_gu_ne (by omega), q_gu_ne (by omega), q_gu_eq rfl, h8, q_sg_id (by omega) (by omega)]
  · unfold bgn
    rw [q_gu_ne (by omega), q_gu_ne (by omega), q_gu_ne (by omega), q_gu_ne (by omega), q_gu_eq rfl]
    rfl
  · rw [bgn_g (by omega)]
    exact hT j j0 j1
  · unfold bgn
    rw [q_gu_ne (by omega), q_gu_ne (by omega), q_gu_ne (by omega), q_gu_ne (by omega), q_gu_ne (by omega), q_gu_eq rfl]
    rfl
  · rw [g11]
    rfl
  · rw [g11]
    omega
  · rw [g11]
    exact hE
theorem bgn_8 : q_g (bgn s) 285 8 = 0 := by
  unfold bgn
  rw [q_gu_ne (by omega), q_gu_ne (by omega), q_gu_eq rfl]
  rfl
theorem bgn_13 : q_g (bgn s) 285 13 = 0 := by
  unfold bgn
  rw [q_gu_eq rfl]
  rfl
theorem op_law (B : Big b s) : Op (Big b) (fun h => EV (d + 40) 2 0 [.ref 1, .ref 312, .null] [] h) (fun h => EV (d + 40) 251 0 [.ref 285, .null, .null] [] h) L xs s O c := by
  have Tp := B.2.1
  generalize hE : q_g s 2 1 = E at *
  obtain ⟨t8, E0, E1, tT⟩ := Tp
  obtain ⟨t, f1, f2, f3, f4, f5⟩ := cc_lparse (d := d + 14) (L := L) (xs := xs) (O := O) (c := c) (s := s) (T := fun j => if 0 ≤ j ∧ j < E then q_g s 290 j else 0) (E := E) hE E0 E1 (fun j j0 j1 => by
    rw [if_pos ⟨j0, j1⟩]
    exact tT j j0 j1)
  have H : TX (fun j => if 0 ≤ j ∧ j < E then q_g s 290 j else 0) E := ⟨E0, E1, fun j j0 j1 => by
    show 0 ≤ (if 0 ≤ j ∧ j < E then q_g s 290 j else 0) ∧ (if 0 ≤ j ∧ j < E then q_g s 290 j else 0) ≤ 255
    rw [if_pos ⟨j0, j1⟩]
    exact (tT j j0 j1).2⟩
  have hTT : ∀ j, 0 ≤ j → j < E → (fun j => if 0 ≤ j ∧ j < E then q_g s 290 j else 0) j = q_g s 290 j := fun j j0 j1 => if_pos ⟨j0, j1⟩
  generalize hT : (fun j => if 0 ≤ j ∧ j < E then q_g s 290 j else 0) = T at *
  have tg : ∀ k z, 60 ≤ k → q_g t k z = q_g s k z := fun k z hk => by
    show (t k z).toInt = _
    rw [f1 k z (by omega) (by omega) (by omega) (by omega) (by omega)]
    rfl
  cases hl : lAll T E with
  | inl e =>
    obtain ⟨p1, p2⟩ := f4 e hl
    have ms := bgn_MS (s := t) H (by rw [tg 285 8 (by omega), t8]) (fun j j0 j1 => by rw [tg 290 j (by omega), hTT j j0 j1])
    obtain ⟨r1, -⟩ := mm_reads1 (d := d + 4) (L := L) (xs := xs) (O := O) (c := q_th c) (F := q_g (bgn t) 291) H (fun _ _ _ => rfl) bgn_13 ms
    obtain ⟨u, n', u1, u2, u3, u4⟩ := r1 e hl
    refine ⟨1, 0, t, q_u u 285 0 1, O, q_th c, ?_, ?_, by omega, by omega, by rw [q_gu_eq rfl]; rfl, fun h => absurd h (by omega), Or.inr rfl, ?_⟩
    · simp (disch := first | omega | exact q_b_01 _) only [↓reduceIte, q_bk0, q_bk1, q_bk2, q_sg_b, q_b_0, q_b_n0, q_b_1, q_b_n1, q_b_T, q_b_F, q_sg_g, q_sg_sg, q_sg_xs, q_sg_id, q_gu_ne, q_gu_eq, q_g_fne, q_g_cpe, q_w_f, q_v_f, q_u_f, q_fn_f, q_cp_f, q_sg_pg, q_sg_hc, q_lt_t, q_lt_f, q_le_t, q_le_f, q_eq_t, q_eq_f, ne_eq, eq_self, Bool.false_eq_true, Bool.true_eq_false, not_true_eq_false, not_false_eq_true, true_and, and_true, false_and, and_false, true_or, or_true, false_or, or_false, if_true, if_false, Int.reduceAdd, Int.reduceMul, Int.reduceSub, Int.reduceNeg, p1, R_2_0, R_2_6, R_2_8, R_2_12, C_2_3, R_139_0, R_139_7, R_139_10, R_139_18, R_139_29, R_139_36, C_139_4, C_139_26, C_139_33, K_2_0]
    · have g0 : q_g (q_u u 285 0 1) 285 0 = 1 := by rw [q_gu_eq rfl]; rfl
      have er := q_g_rg u 285 12
      rw [u2] at er
      simp (disch := first | omega | exact q_b_01 _) only [↓reduceIte, q_bk0, q_bk1, q_bk2, q_sg_b, q_b_0, q_b_n0, q_b_1, q_b_n1, q_b_T, q_b_F, q_sg_g, q_sg_sg, q_sg_xs, q_sg_id, q_gu_ne, q_gu_eq, q_g_fne, q_g_cpe, q_w_f, q_v_f, q_u_f, q_fn_f, q_cp_f, q_sg_pg, q_sg_hc, q_lt_t, q_lt_f, q_le_t, q_le_f, q_eq_t, q_eq_f, ne_eq, eq_self, Bool.false_eq_true, Bool.true_eq_false, not_true_eq_false, not_false_eq_true, true_and, and_true, false_and, and_false, true_or, or_true, false_or, or_false, if_true, if_false, Int.reduceAdd, Int.reduceMul, Int.reduceSub, Int.reduceNeg, mm_begins, u1, u2, g0, R_251_0, R_251_4, R_251_9, R_251_19, R_251_23, R_251_24, R_251_27, R_251_34, R_251_36, R_251_43, R_251_53, R_251_63, R_251_78, R_251_79, R_251_85, R_251_90, C_251_1, C_251_6]
    · refine Big_txt B (fun k z hz hk => ?_) ?_ ?_ ?_
      · rw [q_u_n (by unfold relz relc at hz; omega), u4 k z (by unfold relz relc at hz; omega), bgn_n (by unfold relz relc at hz; omega)]
        by_cases k2 : k = 2
        · subst k2
          exact f2 z (by omega) (by unfold relz relc at hz; omega) (by omega)
        · exact f1 k z k2 (by unfold relz relc at hz; omega) (by unfold relz relc at hz; omega) (by unfold relz relc at hz; omega) (by unfold relz relc at hz; omega)
      · rw [q_gu_ne (by omega), FN_g u4 (by omega), bgn_g (by omega), f3]
      · rw [q_gu_ne (by omega), FN_g u4 (by omega), bgn_8]
      · rw [q_gu_ne (by omega), u2, q_gu_ne (by omega), FN_g u4 (by omega), bgn_g (by omega), p2]
  | inr ls =>
    obtain ⟨p1, p2, p3⟩ := f5 ls hl
    have h55 : isL 55 := Or.inr (Or.inl rfl)
    have h49 : isL 49 := Or.inl rfl
    have hdl : 49 + 5 ≤ 55 ∨ 55 + 5 ≤ 49 := by omega
    have g49 : q_g (q_u (cpL t 49 55) 71 1 0) 49 0 = ls.length := by rw [q_gu_ne (by omega), cpL_F hdl (by omega), p3.1]
    have wg : ∀ k z, ¬ (49 ≤ k ∧ k ≤ 53) → ¬ (k = 71 ∧ z = 1) → q_g (q_u (cpL t 49 55) 71 1 0) k z = q_g t k z := fun k z h1 h2 => by
      rw [q_gu_ne (by omega)]
      show (cpL t 49 55 k z).toInt = _
      rw [cpL_n (by omega)]
      rfl
    have ms := bgn_MS (s := q_u (cpL t 49 55) 71 1 0) H (by rw [wg 285 8 (by omega) (by omega), tg 285 8 (by omega), t8]) (fun j j0 j1 => by rw [wg 290 j (by omega) (by omega), tg 290 j (by omega), hTT j j0 j1])
    obtain ⟨-, r2⟩ := mm_reads1 (d := d + 4) (L := L) (xs := xs) (O := vp_updL O 0 (q_I (ls.length : Int)).toInt64) (c := c) (F := q_g (bgn (q_u (cpL t 49 55) 71 1 0)) 291) H (fun _ _ _ => rfl) bgn_13 ms
    obtain ⟨u, vs, u1, u2, -, -, u4⟩ := r2 ls hl
    generalize hw : q_u (cpL t 49 55) 71 1 0 = w at *
    have ug : ∀ k z, k ≠ 285 → q_g u k z = q_g w k z := fun k z hk => by rw [FN_g u4 (by omega), bgn_g (by omega)]
    have u10 : q_g u 285 10 = E := by rw [FN_g u4 (by omega)]; exact ms.1.1
    have L12 : ls.length ≤ 12 := p3.2.1
    obtain ⟨v, e1, e2⟩ := q_for (fun j v => EV (d + 40) 251 55 [.ref 285, .int (q_I (ls.length : Int)), .int (q_I j)] [] (q_h L xs v (vp_updL O 0 (q_I (ls.length : Int)).toInt64) c)) (fun j v => v = q_fn (q_u (q_u (q_u u 285 0 0) 286 1 (ls.length : Int)) 286 2 E) 286 1049 (1049 + j) (fun z => q_g s 290 (z - 1049))) (lo := 0) (hi := E) E0 (fun j v g1 g2 eu => by
      have q2 : q_g v 290 j = q_g s 290 j := by
        rw [eu, q_g_fne (by omega), q_gu_ne (by omega), q_gu_ne (by omega), q_gu_ne (by omega), ug 290 j (by omega), wg 290 j (by omega) (by omega), tg 290 j (by omega)]
      have q3 : q_g v 285 10 = E := by
        rw [eu, q_g_fne (by omega), q_gu_ne (by omega), q_gu_ne (by omega), q_gu_ne (by omega), u10]
      refine ⟨_, ?_, rfl⟩
      rw [R_251_55]
      simp (disch := first | omega | exact q_b_01 _) only [↓reduceIte, q_bk0, q_bk1, q_bk2, q_sg_b, q_b_0, q_b_n0, q_b_1, q_b_n1, q_b_T, q_b_F, q_sg_g, q_sg_sg, q_sg_xs, q_sg_id, q_gu_ne, q_gu_eq, q_g_fne, q_g_cpe, q_w_f, q_v_f, q_u_f, q_fn_f, q_cp_f, q_sg_pg, q_sg_hc, q_lt_t, q_lt_f, q_le_t, q_le_f, q_eq_t, q_eq_f, ne_eq, eq_self, Bool.false_eq_true, Bool.true_eq_false, not_true_eq_false, not_false_eq_true, true_and, and_true, false_and, and_false, true_or, or_true, false_or, or_false, if_true, if_false, Int.reduceAdd, Int.reduceMul, Int.reduceSub, Int.reduceNeg, q2, q3, R_251_0, R_251_4, R_251_9, R_251_19, R_251_23, R_251_24, R_251_27, R_251_34, R_251_36, R_251_43, R_251_53, R_251_63, R_251_78, R_251_79, R_251_85, R_251_90, C_251_1, C_251_6]
      rw [eu, q_fn_1 _ 286 (v := q_g s 290 j) (fun z => q_g s 290 (z - 1049)) (by omega) (by show _ = q_I (q_g s 290 (1049 + j - 1049)); rw [show 1049 + j - 1049 = j by omega])]
      rw [show 1049 + j + 1 = 1049 + (j + 1) by omega]) (t := q_u (q_u (q_u u 285 0 0) 286 1 (ls.length : Int)) 286 2 E) (by rw [show (1049 : Int) + 0 = 1049 by omega, q_fn_0])
    have v10 : q_g v 285 10 = E := by
      rw [e2, q_g_fne (by omega), q_gu_ne (by omega), q_gu_ne (by omega), q_gu_ne (by omega), u10]
    refine ⟨0, ls.length, w, q_u v 285 6 0, vp_updL O 0 (q_I (ls.length : Int)).toInt64, c, ?_, ?_, by omega, by omega, ?_, fun _ => rfl, Or.inl rfl, ?_⟩
    · rw [← hw]
      rw [← hw] at g49
      simp (disch := first | omega | exact q_b_01 _) only [↓reduceIte, q_bk0, q_bk1, q_bk2, q_sg_b, q_b_0, q_b_n0, q_b_1, q_b_n1, q_b_T, q_b_F, q_sg_g, q_sg_sg, q_sg_xs, q_sg_id, q_gu_ne, q_gu_eq, q_g_fne, q_g_cpe, q_w_f, q_v_f, q_u_f, q_fn_f, q_cp_f, q_sg_pg, q_sg_hc, q_lt_t, q_lt_f, q_le_t, q_le_f, q_eq_t, q_eq_f, ne_eq, eq_self, Bool.false_eq_true, Bool.true_eq_false, not_true_eq_false, not_false_eq_true, true_and, and_true, false_and, and_false, true_or, or_true, false_or, or_false, if_true, if_false, Int.reduceAdd, Int.reduceMul, Int.reduceSub, Int.reduceNeg, p1, g49, R_2_0, R_2_6, R_2_8, R_2_12, C_2_3, R_139_0, R_139_7, R_139_10, R_139_18, R_139_29, R_139_36, C_139_4, C_139_26, C_139_33, cc_copyL h49 h55, R_64_0, R_64_5, K_2_0, q_lst]
    · have g0 : q_g (q_u u 285 0 0) 285 0 = 0 := by rw [q_gu_eq rfl]; rfl
      simp (disch := first | omega | exact q_b_01 _) only [↓reduceIte, q_bk0, q_bk1, q_bk2, q_sg_b, q_b_0, q_b_n0, q_b_1, q_b_n1, q_b_T, q_b_F, q_sg_g, q_sg_sg, q_sg_xs, q_sg_id, q_gu_ne, q_gu_eq, q_g_fne, q_g_cpe, q_w_f, q_v_f, q_u_f, q_fn_f, q_cp_f, q_sg_pg, q_sg_hc, q_lt_t, q_lt_f, q_le_t, q_le_f, q_eq_t, q_eq_f, ne_eq, eq_self, Bool.false_eq_true, Bool.true_eq_false, not_true_eq_false, not_false_eq_true, true_and, and_true, false_and, and_false, true_or, or_true, false_or, or_false, if_true, if_false, Int.reduceAdd, Int.reduceMul, Int.reduceSub, Int.reduceNeg, mm_begins, u1, u2, g0, u10, R_251_0, R_251_4, R_251_9, R_251_19, R_251_23, R_251_24, R_251_27, R_251_34, R_251_36, R_251_43, R_251_53, R_251_63, R_251_78, R_251_79, R_251_85, R_251_90, C_251_1, C_251_6]
      refine Eq.trans e1 ?_
      rw [R_251_55]
      simp (disch := first | omega | exact q_b_01 _) only [↓reduceIte, q_bk0, q_bk1, q_bk2, q_sg_b, q_b_0, q_b_n0, q_b_1, q_b_n1, q_b_T, q_b_F, q_sg_g, q_sg_sg, q_sg_xs, q_sg_id, q_gu_ne, q_gu_eq, q_g_fne, q_g_cpe, q_w_f, q_v_f, q_u_f, q_fn_f, q_cp_f, q_sg_pg, q_sg_hc, q_lt_t, q_lt_f, q_le_t, q_le_f, q_eq_t, q_eq_f, ne_eq, eq_self, Bool.false_eq_true, Bool.true_eq_false, not_true_eq_false, not_false_eq_true, true_and, and_true, false_and, and_false, true_or, or_true, false_or, or_false, if_true, if_false, Int.reduceAdd, Int.reduceMul, Int.reduceSub, Int.reduceNeg, v10, R_251_0, R_251_4, R_251_9, R_251_19, R_251_23, R_251_24, R_251_27, R_251_34, R_251_36, R_251_43, R_251_53, R_251_63, R_251_78, R_251_79, R_251_85, R_251_90, C_251_1, C_251_6]
    · rw [q_gu_ne (by omega), e2, q_g_fne (by omega), q_gu_ne (by omega), q_gu_ne (by omega), q_gu_eq rfl]
      rfl
    · have v286 : ∀ z, z < 1049 → z ≠ 1 → z ≠ 2 → q_g (q_u v 285 6 0) 286 z = q_g s 286 z := fun z z1 z2 z3 => by
        rw [q_gu_ne (by omega), e2, q_g_fne (by omega), q_gu_ne (by omega), q_gu_ne (by omega), q_gu_ne (by omega), ug 286 z (by omega), wg 286 z (by omega) (by omega), tg 286 z (by omega)]
      have v1 : q_g (q_u v 285 6 0) 286 1 = ls.length := by
        rw [q_gu_ne (by omega), e2, q_g_fne (by omega), q_gu_ne (by omega), q_gu_eq rfl, q_sg_id (by omega) (by omega)]
      have v2 : q_g (q_u v 285 6 0) 286 2 = E := by
        rw [q_gu_ne (by omega), e2, q_g_fne (by omega), q_gu_eq rfl, q_sg_id (by omega) (by omega)]
      have vt : ∀ j, 0 ≤ j → j < E → q_g (q_u v 285 6 0) 286 (1049 + j) = q_g s 290 j := fun j j0 j1 => by
        rw [q_gu_ne (by omega), e2, q_g_fn, if_pos ⟨rfl, by omega, by omega⟩, show 1049 + j - 1049 = j by omega, q_sg_g]
      have vk : ∀ k z, k ≠ 285 → k ≠ 286 → q_g (q_u v 285 6 0) k z = q_g w k z := fun k z h1 h2 => by
        rw [q_gu_ne (by omega), e2, q_g_fne (by omega), q_gu_ne (by omega), q_gu_ne (by omega), q_gu_ne (by omega), ug k z h1]
      have eT : LT (q_g (q_u v 285 6 0) 286) = T := by
        rw [← hT]
        funext j
        unfold LT
        rw [v2]
        by_cases hj : 0 ≤ j ∧ j < E
        · rw [if_pos hj, if_pos hj, vt j hj.1 hj.2]
        · rw [if_neg hj, if_neg hj]
      have hL : LawP (q_g (q_u v 285 6 0) 286) (q_g (q_u v 285 6 0) 49) (q_g (q_u v 285 6 0) 50) (q_g (q_u v 285 6 0) 51) (q_g (q_u v 285 6 0) 52) (q_g (q_u v 285 6 0) 53) := by
        have l49 : ∀ k z, 49 ≤ k → k ≤ 53 → q_g (q_u v 285 6 0) k z = q_g (cpL t 49 55) k z := fun k z h1 h2 => by rw [vk k z (by omega) (by omega), ← hw, q_gu_ne (by omega)]
        obtain ⟨m1, m2, m3, m4, m5, m6⟩ := p3
        refine Or.inr ⟨by rw [v2]; exact E0, by rw [v2]; exact E1, fun j j0 j1 => ?_, ls, by rw [eT, v2]; exact hl, v1, by rw [l49 49 0 (by omega) (by omega), cpL_F hdl (by omega), m1], m2, fun k hk => ?_, m4, by rw [l49 49 5 (by omega) (by omega), cpL_F hdl (by omega), m5], fun k hk => ?_⟩
        · rw [v2] at j1
          rw [vt j j0 j1]
          exact (tT j j0 j1).2
        · rw [l49 50 k (by omega) (by omega), l49 51 k (by omega) (by omega), l49 52 k (by omega) (by omega)]
          obtain ⟨n1, n2, n3⟩ := m3 k hk
          exact ⟨(cpL_1 hdl (by omega) (by omega)).trans n1, (cpL_2 hdl (by omega) (by omega)).trans n2, (cpL_3 hdl (by omega) (by omega)).trans n3⟩
        · rw [l49 53 k (by omega) (by omega)]
          exact (cpL_4 hdl (by omega) (by omega)).trans (m6 k hk)
      let x : Nat → Int → Int32 := fun k z => if k = 2 ∧ (z = 1 ∨ z = 6) ∨ k = 285 ∧ (z = 8 ∨ z = 12) then q_u v 285 6 0 k z else s k z
      have xg : ∀ k z, k = 2 ∧ (z = 1 ∨ z = 6) ∨ k = 285 ∧ (z = 8 ∨ z = 12) → q_g x k z = q_g (q_u v 285 6 0) k z := fun k z h => by
        show (if k = 2 ∧ (z = 1 ∨ z = 6) ∨ k = 285 ∧ (z = 8 ∨ z = 12) then q_u v 285 6 0 k z else s k z).toInt = _
        rw [if_pos h]
        rfl
      have vf : ∀ z, z = 8 ∨ z = 12 → q_g (q_u v 285 6 0) 285 z = q_g u 285 z := fun z hz => by
        rw [q_gu_ne (by omega), e2, q_g_fne (by omega), q_gu_ne (by omega), q_gu_ne (by omega), q_gu_ne (by omega)]
      have Bx : Big b x := by
        refine Big_txt B (fun k z hz hk => ?_) ?_ ?_ ?_
        · show (if k = 2 ∧ (z = 1 ∨ z = 6) ∨ k = 285 ∧ (z = 8 ∨ z = 12) then q_u v 285 6 0 k z else s k z) = s k z
          rw [if_neg hk]
        · rw [xg 2 1 (by omega), vk 2 1 (by omega) (by omega), wg 2 1 (by omega) (by omega), f3]
        · rw [xg 285 8 (by omega), vf 8 (by omega), FN_g u4 (by omega), bgn_8]
        · rw [xg 285 12 (by omega), xg 2 6 (by omega), vf 12 (by omega), u2, vk 2 6 (by omega) (by omega), wg 2 6 (by omega) (by omega), p2]
      obtain ⟨kR, kI⟩ := RI_keep (u := q_u v 285 6 0) (m' := q_g (q_u v 285 6 0) 286) B.1.1 B.1.2.1 (fun z z0 z1 z2 z3 => v286 z z1 z2 z3) (fun k k0 k1 => funext fun z => by
        rw [vk k z (by omega) (by omega), wg k z (by omega) (by omega)]
        show (t k z).toInt = _
        rw [f1 k z (by omega) (by omega) (by omega) (by omega) (by omega)]
        rfl)
      refine Big_clr Bx (Int.le_refl _) (fun k z c1 c2 c3 c4 c5 c6 => ?_) ?_ ?_ hL kR kI
      · show _ = if k = 2 ∧ (z = 1 ∨ z = 6) ∨ k = 285 ∧ (z = 8 ∨ z = 12) then q_u v 285 6 0 k z else s k z
        split
        · rfl
        · have cc := c1
          unfold relz relc at cc
          rw [q_u_n (by omega), e2, q_fn_n (by omega), q_u_n (by omega), q_u_n (by omega), q_u_n (by omega), u4 k z (by omega), bgn_n (by omega), ← hw, q_u_n (by omega), cpL_n (by omega)]
          by_cases k2 : k = 2
          · subst k2
            exact f2 z (by omega) (by omega) (by omega)
          · exact f1 k z k2 (by omega) (by omega) (by omega) (by omega)
      · rw [vk 71 1 (by omega) (by omega), ← hw, q_gu_eq rfl]
        rfl
      · rw [q_gu_eq rfl]
        rfl
end LOP
