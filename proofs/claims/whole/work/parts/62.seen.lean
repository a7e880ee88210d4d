/-! CALLS OF BOTH: what was seen -/
def gr (Tp : Int → Int) (r : Int) : Prop := Tp (2 * r) < 100 ∧ Tp (2 * r + 1) ≤ 100
def tl1 (x : Int) : Int := if x = 100 then -1 else x
def wr (m : Int → Int) (v : Int) (Tp : Int → Int) (r : Int) : Int := q_b (¬ (VV m v (Tp (2 * r))).toInt = tl1 (Tp (2 * r + 1)))
def WR (m : Int → Int) (v : Int) (Tp : Int → Int) (R : Int) : Int := q_S (wr m v Tp) 0 R
def fb (m : Int → Int) (Tp : Int → Int) (R v : Int) : Bool := vo m v && decide (WR m v Tp R ≤ 1)
def FT (m : Int → Int) (Tp : Int → Int) (R : Int) : Int := q_it (fun v x => if fb m Tp R v = true then q_or x (q_shl 1 v) else x) 5 0
section SE
variable {d L : Nat} {xs : Nat → Int32} {s t : Nat → Int → Int32} {O : Nat → Int64} {c : Bool × Nat × Nat} {b : Int} {m : Int → Int} {Tp : Int → Int} {R : Int}
theorem WR_rg (h0 : 0 ≤ R) (v : Int) : 0 ≤ WR m v Tp R ∧ WR m v Tp R ≤ R := by
  have := q_S_bd (f := wr m v Tp) (lo := 0) (hi := R) (a := 0) (b := 1) (fun i _ _ => by
    unfold wr
    rcases q_b_01 (¬ (VV m v (Tp (2 * i))).toInt = tl1 (Tp (2 * i + 1))) with e | e <;> rw [e] <;> omega) h0
  unfold WR
  omega
theorem FT_eq : FT m Tp R = q_it (fun v x => if (if v = 0 then fb m Tp R 0 else if v = 1 then fb m Tp R 1 else if v = 2 then fb m Tp R 2 else if v = 3 then fb m Tp R 3 else fb m Tp R 4) = true then q_or x (q_shl 1 v) else x) 5 0 := by
  unfold FT
  refine q_it_c _ _ (fun k h1 h2 x => ?_)
  have : k = 0 ∨ k = 1 ∨ k = 2 ∨ k = 3 ∨ k = 4 := by omega
  rcases this with e | e | e | e | e <;> subst e <;> rfl
theorem FT_rg : 0 ≤ FT m Tp R ∧ FT m Tp R < 32 := by
  rw [FT_eq]
  have := mk_bits (fb m Tp R 0) (fb m Tp R 1) (fb m Tp R 2) (fb m Tp R 3) (fb m Tp R 4)
  exact ⟨this.1, this.2.1⟩
theorem FT_of {v : Int} (h0 : 0 ≤ v) (h1 : v < 5) : (q_sg (q_and (q_shr (FT m Tp R) v) 1) = 1) = (fb m Tp R v = true) := by
  rw [FT_eq]
  obtain ⟨_, _, a0, a1, a2, a3, a4, _⟩ := mk_bits (fb m Tp R 0) (fb m Tp R 1) (fb m Tp R 2) (fb m Tp R 3) (fb m Tp R 4)
  refine propext ?_
  have : v = 0 ∨ v = 1 ∨ v = 2 ∨ v = 3 ∨ v = 4 := by omega
  rcases this with e | e | e | e | e <;> subst e <;> assumption
theorem q_or_0 (x : Int) : q_I (q_or x 0) = q_I x := by
  unfold q_or
  rw [q_It]
  refine Int32.toBitVec_inj.mp ?_
  show (q_I x).toBitVec ||| (q_I 0).toBitVec = _
  rw [show (q_I 0).toBitVec = 0#32 from rfl, BitVec.or_zero]
/-- the class takes the rows -/
theorem cc_takeRows {N : Int} (hN : q_g s 2 1 = N) (n0 : 0 ≤ N) (n1 : N ≤ 400) (hT : ∀ k, 0 ≤ k → k < N → q_g s 3 k = Tp k) : (N ≤ 40 ∧ N % 2 = 0 ∧ (∀ r, 0 ≤ r → r < N / 2 → gr Tp r) ∧ EV (d) 199 0 [.ref 1, .null, .null] [] (q_h L xs s O c) = some (.inl (some (.int (q_I (N / 2)))), q_h L xs (q_u s 2 1 0) O c)) ∨ (¬ (N ≤ 40 ∧ N % 2 = 0 ∧ ∀ r, 0 ≤ r → r < N / 2 → gr Tp r) ∧ EV (d) 199 0 [.ref 1, .null, .null] [] (q_h L xs s O c) = some (.inl (some (.int (q_I (-1)))), q_h L xs (q_u s 2 1 0) O c)) := by
  have er : q_rm N 2 = N % 2 := by
    unfold q_rm
    rw [q_sg_id (by omega) (by omega), q_sg_id (by omega) (by omega), Int.tmod_eq_emod_of_nonneg n0]
  have ed : q_dv N 2 = N / 2 := by
    unfold q_dv
    rw [q_sg_id (by omega) (by omega), q_sg_id (by omega) (by omega), Int.tdiv_eq_ediv_of_nonneg n0]
  by_cases h1 : N ≤ 40
  · by_cases h2 : N % 2 = 0
    · have key := q_fd (fun j => EV (d) 199 32 [.ref 1, .int (q_I (N)), .int (q_I (j))] [] (q_h L xs (q_u s 2 1 0) O c)) (fun r => ¬ (Tp (2 * r) < 100 ∧ Tp (2 * r + 1) ≤ 100)) (lo := 0) (hi := N / 2) (by omega) (some (.inl (some (.int (q_I (N / 2)))), q_h L xs (q_u s 2 1 0) O c)) (fun _ => some (.inl (some (.int (q_I (-1)))), q_h L xs (q_u s 2 1 0) O c)) (by
        rw [R_199_32]
        simp (disch := first | omega | exact q_b_01 _) only [↓reduceIte, q_bk0, q_bk1, q_bk2, q_sg_b, q_b_0, q_b_n0, q_b_1, q_b_n1, q_b_T, q_b_F, q_sg_g, q_sg_sg, q_sg_xs, q_sg_id, q_gu_ne, q_gu_eq, q_g_fne, q_g_cpe, q_w_f, q_v_f, q_u_f, q_fn_f, q_cp_f, q_sg_pg, q_sg_hc, q_lt_t, q_lt_f, q_le_t, q_le_f, q_eq_t, q_eq_f, ne_eq, eq_self, Bool.false_eq_true, Bool.true_eq_false, not_true_eq_false, not_false_eq_true, true_and, and_true, false_and, and_false, true_or, or_true, false_or, or_false, if_true, if_false, Int.reduceAdd, Int.reduceMul, Int.reduceSub, Int.reduceNeg, ed, R_199_0, R_199_16, R_199_22, R_199_25, R_199_28, R_199_30, R_199_41, R_199_52, R_199_57, R_199_70, R_199_75, R_199_77, R_199_83, R_199_86]) (fun j a1 a2 hj => by
        have t1 := hT (2 * j) (by omega) (by omega)
        have t2 := hT (2 * j + 1) (by omega) (by omega)
        have r1 := q_g_rg s 3 (2 * j)
        have r2 := q_g_rg s 3 (2 * j + 1)
        rw [t1] at r1
        rw [t2] at r2
        rw [R_199_32]
        by_cases c1 : Tp (2 * j) < 100
        · simp (disch := first | omega | exact q_b_01 _) only [↓reduceIte, q_bk0, q_bk1, q_bk2, q_sg_b, q_b_0, q_b_n0, q_b_1, q_b_n1, q_b_T, q_b_F, q_sg_g, q_sg_sg, q_sg_xs, q_sg_id, q_gu_ne, q_gu_eq, q_g_fne, q_g_cpe, q_w_f, q_v_f, q_u_f, q_fn_f, q_cp_f, q_sg_pg, q_sg_hc, q_lt_t, q_lt_f, q_le_t, q_le_f, q_eq_t, q_eq_f, ne_eq, eq_self, Bool.false_eq_true, Bool.true_eq_false, not_true_eq_false, not_false_eq_true, true_and, and_true, false_and, and_false, true_or, or_true, false_or, or_false, if_true, if_false, Int.reduceAdd, Int.reduceMul, Int.reduceSub, Int.reduceNeg, t1, t2, R_199_0, R_199_16, R_199_22, R_199_25, R_199_28, R_199_30, R_199_41, R_199_52, R_199_57, R_199_70, R_199_75, R_199_77, R_199_83, R_199_86]
        · simp (disch := first | omega | exact q_b_01 _) only [↓reduceIte, q_bk0, q_bk1, q_bk2, q_sg_b, q_b_0, q_b_n0, q_b_1, q_b_n1, q_b_T, q_b_F, q_sg_g, q_sg_sg, q_sg_xs, q_sg_id, q_gu_ne, q_gu_eq, q_g_fne, q_g_cpe, q_w_f, q_v_f, q_u_f, q_fn_f, q_cp_f, q_sg_pg, q_sg_hc, q_lt_t, q_lt_f, q_le_t, q_le_f, q_eq_t, q_eq_f, ne_eq, eq_self, Bool.false_eq_true, Bool.true_eq_false, not_true_eq_false, not_false_eq_true, true_and, and_true, false_and, and_false, true_or, or_true, false_or, or_false, if_true, if_false, Int.reduceAdd, Int.reduceMul, Int.reduceSub, Int.reduceNeg, t1, t2, R_199_0, R_199_16, R_199_22, R_199_25, R_199_28, R_199_30, R_199_41, R_199_52, R_199_57, R_199_70, R_199_75, R_199_77, R_199_83, R_199_86]) (fun j a1 a2 hj => by
        have t1 := hT (2 * j) (by omega) (by omega)
        have t2 := hT (2 * j + 1) (by omega) (by omega)
        have r1 := q_g_rg s 3 (2 * j)
        have r2 := q_g_rg s 3 (2 * j + 1)
        rw [t1] at r1
        rw [t2] at r2
        rw [Decidable.not_not] at hj
        rw [R_199_32]
        simp (disch := first | omega | exact q_b_01 _) only [↓reduceIte, q_bk0, q_bk1, q_bk2, q_sg_b, q_b_0, q_b_n0, q_b_1, q_b_n1, q_b_T, q_b_F, q_sg_g, q_sg_sg, q_sg_xs, q_sg_id, q_gu_ne, q_gu_eq, q_g_fne, q_g_cpe, q_w_f, q_v_f, q_u_f, q_fn_f, q_cp_f, q_sg_pg, q_sg_hc, q_lt_t, q_lt_f, q_le_t, q_le_f, q_eq_t, q_eq_f, ne_eq, eq_self, Bool.false_eq_true, Bool.true_eq_false, not_true_eq_false, not_false_eq_true, true_and, and_true, false_and, and_false, true_or, or_true, false_or, or_false, if_true, if_false, Int.reduceAdd, Int.reduceMul, Int.reduceSub, Int.reduceNeg, t1, t2, R_199_0, R_199_16, R_199_22, R_199_25, R_199_28, R_199_30, R_199_41, R_199_52, R_199_57, R_199_70, R_199_75, R_199_77, R_199_83, R_199_86])
      rcases key with ⟨j, j0, j1, jr, _, e⟩ | ⟨hall, e⟩
      · refine Or.inr ⟨fun h => jr (h.2.2 j j0 j1), ?_⟩
        simp (disch := first | omega | exact q_b_01 _) only [↓reduceIte, q_bk0, q_bk1, q_bk2, q_sg_b, q_b_0, q_b_n0, q_b_1, q_b_n1, q_b_T, q_b_F, q_sg_g, q_sg_sg, q_sg_xs, q_sg_id, q_gu_ne, q_gu_eq, q_g_fne, q_g_cpe, q_w_f, q_v_f, q_u_f, q_fn_f, q_cp_f, q_sg_pg, q_sg_hc, q_lt_t, q_lt_f, q_le_t, q_le_f, q_eq_t, q_eq_f, ne_eq, eq_self, Bool.false_eq_true, Bool.true_eq_false, not_true_eq_false, not_false_eq_true, true_and, and_true, false_and, and_false, true_or, or_true, false_or, or_false, if_true, if_false, Int.reduceAdd, Int.reduceMul, Int.reduceSub, Int.reduceNeg, hN, er, R_199_0, R_199_16, R_199_22, R_199_25, R_199_28, R_199_30, R_199_41, R_199_52, R_199_57, R_199_70, R_199_75, R_199_77, R_199_83, R_199_86]
        exact e
      · refine Or.inl ⟨h1, h2, fun r r0 r1 => (Decidable.not_not (p := Tp (2 * r) < 100 ∧ Tp (2 * r + 1) ≤ 100)).mp (hall r r0 r1), ?_⟩
        simp (disch := first | omega | exact q_b_01 _) only [↓reduceIte, q_bk0, q_bk1, q_bk2, q_sg_b, q_b_0, q_b_n0, q_b_1, q_b_n1, q_b_T, q_b_F, q_sg_g, q_sg_sg, q_sg_xs, q_sg_id, q_gu_ne, q_gu_eq, q_g_fne, q_g_cpe, q_w_f, q_v_f, q_u_f, q_fn_f, q_cp_f, q_sg_pg, q_sg_hc, q_lt_t, q_lt_f, q_le_t, q_le_f, q_eq_t, q_eq_f, ne_eq, eq_self, Bool.false_eq_true, Bool.true_eq_false, not_true_eq_false, not_false_eq_true, true_and, and_true, false_and, and_false, true_or, or_true, false_or, or_false, if_true, if_false, Int.reduceAdd, Int.reduceMul, Int.reduceSub, Int.reduceNeg, hN, er, R_199_0, R_199_16, R_199_22, R_199_25, R_199_28, R_199_30, R_199_41, R_199_52, R_199_57, R_199_70, R_199_75, R_199_77, R_199_83, R_199_86]
        exact e
    · refine Or.inr ⟨fun h => h2 h.2.1, ?_⟩
      simp (disch := first | omega | exact q_b_01 _) only [↓reduceIte, q_bk0, q_bk1, q_bk2, q_sg_b, q_b_0, q_b_n0, q_b_1, q_b_n1, q_b_T, q_b_F, q_sg_g, q_sg_sg, q_sg_xs, q_sg_id, q_gu_ne, q_gu_eq, q_g_fne, q_g_cpe, q_w_f, q_v_f, q_u_f, q_fn_f, q_cp_f, q_sg_pg, q_sg_hc, q_lt_t, q_lt_f, q_le_t, q_le_f, q_eq_t, q_eq_f, ne_eq, eq_self, Bool.false_eq_true, Bool.true_eq_false, not_true_eq_false, not_false_eq_true, true_and, and_true, false_and, and_false, true_or, or_true, false_or, or_false, if_true, if_false, Int.reduceAdd, Int.reduceMul, Int.reduceSub, Int.reduceNeg, hN, er, R_199_0, R_199_16, R_199_22, R_199_25, R_199_28, R_199_30, R_199_41, R_199_52, R_199_57, R_199_70, R_199_75, R_199_77, R_199_83, R_199_86]
  · refine Or.inr ⟨fun h => h1 h.1, ?_⟩
    simp (disch := first | omega | exact q_b_01 _) only [↓reduceIte, q_bk0, q_bk1, q_bk2, q_sg_b, q_b_0, q_b_n0, q_b_1, q_b_n1, q_b_T, q_b_F, q_sg_g, q_sg_sg, q_sg_xs, q_sg_id, q_gu_ne, q_gu_eq, q_g_fne, q_g_cpe, q_w_f, q_v_f, q_u_f, q_fn_f, q_cp_f, q_sg_pg, q_sg_hc, q_lt_t, q_lt_f, q_le_t, q_le_f, q_eq_t, q_eq_f, ne_eq, eq_self, Bool.false_eq_true, Bool.true_eq_false, not_true_eq_false, not_false_eq_true, true_and, and_true, false_and, and_false, true_or, or_true, false_or, or_false, if_true, if_false, Int.reduceAdd, Int.reduceMul, Int.reduceSub, Int.reduceNeg, hN, R_199_0, R_199_16, R_199_22, R_199_25, R_199_28, R_199_30, R_199_41, R_199_52, R_199_57, R_199_70, R_199_75, R_199_77, R_199_83, R_199_86]
theorem cc_wrongRows {v : Int} (v0 : 0 ≤ v) (v1 : v < 5) (Hw : Wk m v s) (r0 : 0 ≤ R) (r1 : R ≤ 20) (hT : ∀ k, 0 ≤ k → k < 2 * R → q_g s 3 k = Tp k ∧ 0 ≤ Tp k) (hg : ∀ r, 0 ≤ r → r < R → gr Tp r) : EV (d + 1) 200 0 [.ref 1, .int (q_I (v)), .int (q_I (R)), .null, .null, .null, .null, .null] [] (q_h L xs s O c) = some (.inl (some (.int (q_I (WR m v Tp R)))), q_h L xs (s) O c) := by
  have hW := r264_W v0 v1
  simp (disch := first | omega | exact q_b_01 _) only [↓reduceIte, q_bk0, q_bk1, q_bk2, q_sg_b, q_b_0, q_b_n0, q_b_1, q_b_n1, q_b_T, q_b_F, q_sg_g, q_sg_sg, q_sg_xs, q_sg_id, q_gu_ne, q_gu_eq, q_g_fne, q_g_cpe, q_w_f, q_v_f, q_u_f, q_fn_f, q_cp_f, q_sg_pg, q_sg_hc, q_lt_t, q_lt_f, q_le_t, q_le_f, q_eq_t, q_eq_f, ne_eq, eq_self, Bool.false_eq_true, Bool.true_eq_false, not_true_eq_false, not_false_eq_true, true_and, and_true, false_and, and_false, true_or, or_true, false_or, or_false, if_true, if_false, Int.reduceAdd, Int.reduceMul, Int.reduceSub, Int.reduceNeg, R_200_0, R_200_11, R_200_18, R_200_30, R_200_46, R_200_53, R_200_56, R_200_62, R_200_65, R_200_68, R_200_71, R_200_72, R_200_83, R_200_87, R_200_89, R_200_92, R_200_95, R_200_101, C_200_50]
  obtain ⟨u, f1, f2⟩ := q_for (fun j (u : Int × Value × Value × Value) => EV (d + 1) 200 5 [.ref 1, .int (q_I (v)), .int (q_I (R)), .int (q_I (u.1)), .int (q_I (j)), u.2.1, u.2.2.1, u.2.2.2] [] (q_h L xs s O c)) (fun j u => u.1 = q_S (wr m v Tp) 0 j) (lo := 0) (hi := R) (by omega) (fun j u a1 a2 eu => by
    have t1 := hT (2 * j) (by omega) (by omega)
    have t2 := hT (2 * j + 1) (by omega) (by omega)
    have g := hg j a1 a2
    unfold gr at g
    have hv := Hw.1 (Tp (2 * j)) t1.2 g.1
    have hv' : q_g s (q_r264 v + 1) (Tp (2 * j)) = (VV m v (Tp (2 * j))).toInt := hv
    have rv := q_g_rg s (q_r264 v + 1) (Tp (2 * j))
    rw [hv'] at rv
    have rt : -1 ≤ tl1 (Tp (2 * j + 1)) ∧ tl1 (Tp (2 * j + 1)) ≤ 100 := by
      unfold tl1
      split <;> omega
    refine ⟨(u.1 + wr m v Tp j, .int (q_I (Tp (2 * j))), .int (q_I (Tp (2 * j + 1))), .int (q_I (VV m v (Tp (2 * j))).toInt)), ?_, by rw [q_S_1 _ a1, ← eu]⟩
    rw [R_200_5]
    unfold wr
    by_cases c1 : Tp (2 * j + 1) = 100
    · have e1 : tl1 (Tp (2 * j + 1)) = -1 := if_pos c1
      by_cases c2 : (VV m v (Tp (2 * j))).toInt = tl1 (Tp (2 * j + 1))
      · simp (disch := first | omega | exact q_b_01 _) only [↓reduceIte, q_bk0, q_bk1, q_bk2, q_sg_b, q_b_0, q_b_n0, q_b_1, q_b_n1, q_b_T, q_b_F, q_sg_g, q_sg_sg, q_sg_xs, q_sg_id, q_gu_ne, q_gu_eq, q_g_fne, q_g_cpe, q_w_f, q_v_f, q_u_f, q_fn_f, q_cp_f, q_sg_pg, q_sg_hc, q_lt_t, q_lt_f, q_le_t, q_le_f, q_eq_t, q_eq_f, ne_eq, eq_self, Bool.false_eq_true, Bool.true_eq_false, not_true_eq_false, not_false_eq_true, true_and, and_true, false_and, and_false, true_or, or_true, false_or, or_false, if_true, if_false, Int.reduceAdd, Int.reduceMul, Int.reduceSub, Int.reduceNeg, t1.1, t2.1, hv', c2, Int.add_zero, R_200_0, R_200_11, R_200_18, R_200_30, R_200_46, R_200_53, R_200_56, R_200_62, R_200_65, R_200_68, R_200_71, R_200_72, R_200_83, R_200_87, R_200_89, R_200_92, R_200_95, R_200_101, C_200_50, cc_isKey, wk_g0 hW, wk_l1 hW]
      · simp (disch := first | omega | exact q_b_01 _) only [↓reduceIte, q_bk0, q_bk1, q_bk2, q_sg_b, q_b_0, q_b_n0, q_b_1, q_b_n1, q_b_T, q_b_F, q_sg_g, q_sg_sg, q_sg_xs, q_sg_id, q_gu_ne, q_gu_eq, q_g_fne, q_g_cpe, q_w_f, q_v_f, q_u_f, q_fn_f, q_cp_f, q_sg_pg, q_sg_hc, q_lt_t, q_lt_f, q_le_t, q_le_f, q_eq_t, q_eq_f, ne_eq, eq_self, Bool.false_eq_true, Bool.true_eq_false, not_true_eq_false, not_false_eq_true, true_and, and_true, false_and, and_false, true_or, or_true, false_or, or_false, if_true, if_false, Int.reduceAdd, Int.reduceMul, Int.reduceSub, Int.reduceNeg, t1.1, t2.1, hv', c2, R_200_0, R_200_11, R_200_18, R_200_30, R_200_46, R_200_53, R_200_56, R_200_62, R_200_65, R_200_68, R_200_71, R_200_72, R_200_83, R_200_87, R_200_89, R_200_92, R_200_95, R_200_101, C_200_50, cc_isKey, wk_g0 hW, wk_l1 hW]
    · have e1 : tl1 (Tp (2 * j + 1)) = Tp (2 * j + 1) := if_neg c1
      by_cases c2 : (VV m v (Tp (2 * j))).toInt = tl1 (Tp (2 * j + 1))
      · simp (disch := first | omega | exact q_b_01 _) only [↓reduceIte, q_bk0, q_bk1, q_bk2, q_sg_b, q_b_0, q_b_n0, q_b_1, q_b_n1, q_b_T, q_b_F, q_sg_g, q_sg_sg, q_sg_xs, q_sg_id, q_gu_ne, q_gu_eq, q_g_fne, q_g_cpe, q_w_f, q_v_f, q_u_f, q_fn_f, q_cp_f, q_sg_pg, q_sg_hc, q_lt_t, q_lt_f, q_le_t, q_le_f, q_eq_t, q_eq_f, ne_eq, eq_self, Bool.false_eq_true, Bool.true_eq_false, not_true_eq_false, not_false_eq_true, true_and, and_true, false_and, and_false, true_or, or_true, false_or, or_false, if_true, if_false, Int.reduceAdd, Int.reduceMul, Int.reduceSub, Int.reduceNeg, t1.1, t2.1, hv', c2, Int.add_zero, R_200_0, R_200_11, R_200_18, R_200_30, R_200_46, R_200_53, R_200_56, R_200_62, R_200_65, R_200_68, R_200_71, R_200_72, R_200_83, R_200_87, R_200_89, R_200_92, R_200_95, R_200_101, C_200_50, cc_isKey, wk_g0 hW, wk_l1 hW]
      · simp (disch := first | omega | exact q_b_01 _) only [↓reduceIte, q_bk0, q_bk1, q_bk2, q_sg_b, q_b_0, q_b_n0, q_b_1, q_b_n1, q_b_T, q_b_F, q_sg_g, q_sg_sg, q_sg_xs, q_sg_id, q_gu_ne, q_gu_eq, q_g_fne, q_g_cpe, q_w_f, q_v_f, q_u_f, q_fn_f, q_cp_f, q_sg_pg, q_sg_hc, q_lt_t, q_lt_f, q_le_t, q_le_f, q_eq_t, q_eq_f, ne_eq, eq_self, Bool.false_eq_true, Bool.true_eq_false, not_true_eq_false, not_false_eq_true, true_and, and_true, false_and, and_false, true_or, or_true, false_or, or_false, if_true, if_false, Int.reduceAdd, Int.reduceMul, Int.reduceSub, Int.reduceNeg, t1.1, t2.1, hv', c2, R_200_0, R_200_11, R_200_18, R_200_30, R_200_46, R_200_53, R_200_56, R_200_62, R_200_65, R_200_68, R_200_71, R_200_72, R_200_83, R_200_87, R_200_89, R_200_92, R_200_95, R_200_101, C_200_50, cc_isKey, wk_g0 hW, wk_l1 hW]) (t := (0, .null, .null, .null)) (q_S_0 _ _).symm
  refine Eq.trans f1 ?_
  rw [R_200_5, f2]
  simp (disch := first | omega | exact q_b_01 _) only [↓reduceIte, q_bk0, q_bk1, q_bk2, q_sg_b, q_b_0, q_b_n0, q_b_1, q_b_n1, q_b_T, q_b_F, q_sg_g, q_sg_sg, q_sg_xs, q_sg_id, q_gu_ne, q_gu_eq, q_g_fne, q_g_cpe, q_w_f, q_v_f, q_u_f, q_fn_f, q_cp_f, q_sg_pg, q_sg_hc, q_lt_t, q_lt_f, q_le_t, q_le_f, q_eq_t, q_eq_f, ne_eq, eq_self, Bool.false_eq_true, Bool.true_eq_false, not_true_eq_false, not_false_eq_true, true_and, and_true, false_and, and_false, true_or, or_true, false_or, or_false, if_true, if_false, Int.reduceAdd, Int.reduceMul, Int.reduceSub, Int.reduceNeg, R_200_0, R_200_11, R_200_18, R_200_30, R_200_46, R_200_53, R_200_56, R_200_62, R_200_65, R_200_68, R_200_71, R_200_72, R_200_83, R_200_87, R_200_89, R_200_92, R_200_95, R_200_101, C_200_50]
  rfl
theorem cc_fitting (H : RB m s 7) (Hd : HdI m) (Hv : Vw m) (r0 : 0 ≤ R) (r1 : R ≤ 20) (hT : ∀ k, 0 ≤ k → k < 2 * R → q_g s 3 k = Tp k ∧ 0 ≤ Tp k) (hg : ∀ r, 0 ≤ r → r < R → gr Tp r) : ∃ t, EV (d + 17) 201 0 [.ref 1, .int (q_I (R)), .null, .null] [] (q_h L xs s O c) = some (.inl (some (.int (q_I (FT m Tp R)))), q_h L xs (t) O c) ∧ (∀ v, 0 ≤ v → v < 5 → Wk m v t) ∧ ∀ k, k < 270 ∨ 284 < k → t k = s k := by
  obtain ⟨t, e1, e2, e3⟩ := cc_readViews (d := d) (L := L) (xs := xs) (O := O) (c := c) H Hd Hv
  refine ⟨t, ?_, e2, e3⟩
  have H' : RB m t 7 := rb_fr H (fun k a b => e3 k (by omega))
  have hT' : ∀ k, 0 ≤ k → k < 2 * R → q_g t 3 k = Tp k ∧ 0 ≤ Tp k := fun k k0 k1 => by
    have : q_g t 3 k = q_g s 3 k := by
      unfold q_g
      rw [e3 3 (by omega)]
    rw [this]
    exact hT k k0 k1
  simp (disch := first | omega | exact q_b_01 _) only [↓reduceIte, q_bk0, q_bk1, q_bk2, q_sg_b, q_b_0, q_b_n0, q_b_1, q_b_n1, q_b_T, q_b_F, q_sg_g, q_sg_sg, q_sg_xs, q_sg_id, q_gu_ne, q_gu_eq, q_g_fne, q_g_cpe, q_w_f, q_v_f, q_u_f, q_fn_f, q_cp_f, q_sg_pg, q_sg_hc, q_lt_t, q_lt_f, q_le_t, q_le_f, q_eq_t, q_eq_f, ne_eq, eq_self, Bool.false_eq_true, Bool.true_eq_false, not_true_eq_false, not_false_eq_true, true_and, and_true, false_and, and_false, true_or, or_true, false_or, or_false, if_true, if_false, Int.reduceAdd, Int.reduceMul, Int.reduceSub, Int.reduceNeg, R_201_0, R_201_4, R_201_13, R_201_18, R_201_21, R_201_27, R_201_31, R_201_37, R_201_43, C_201_1, C_201_15, C_201_24, e1]
  have key := q_itl (fun j x => EV (d + 17) 201 8 [.ref 1, .int (q_I (R)), .int (q_I (x)), .int (q_I (j))] [] (q_h L xs (t) O c)) (fun v x => if fb m Tp R v = true then q_or x (q_shl 1 v) else x) (fun _ _ => True) (hi := 5) (by omega) (fun j x a1 a2 _ => by
    refine ⟨?_, trivial⟩
    have ew := cc_wrongRows (d := d + 15) (L := L) (xs := xs) (O := O) (c := c) a1 a2 (e2 j a1 a2) r0 r1 hT' hg
    have wr := WR_rg (m := m) (Tp := Tp) r0 j
    rw [R_201_8]
    unfold fb
    by_cases ho : vo m j = true
    · by_cases hw : WR m j Tp R ≤ 1
      · simp (disch := first | omega | exact q_b_01 _) only [↓reduceIte, q_bk0, q_bk1, q_bk2, q_sg_b, q_b_0, q_b_n0, q_b_1, q_b_n1, q_b_T, q_b_F, q_sg_g, q_sg_sg, q_sg_xs, q_sg_id, q_gu_ne, q_gu_eq, q_g_fne, q_g_cpe, q_w_f, q_v_f, q_u_f, q_fn_f, q_cp_f, q_sg_pg, q_sg_hc, q_lt_t, q_lt_f, q_le_t, q_le_f, q_eq_t, q_eq_f, ne_eq, eq_self, Bool.false_eq_true, Bool.true_eq_false, not_true_eq_false, not_false_eq_true, true_and, and_true, false_and, and_false, true_or, or_true, false_or, or_false, if_true, if_false, Int.reduceAdd, Int.reduceMul, Int.reduceSub, Int.reduceNeg, ho, hw, decide_true, Bool.and_self, R_201_0, R_201_4, R_201_13, R_201_18, R_201_21, R_201_27, R_201_31, R_201_37, R_201_43, C_201_1, C_201_15, C_201_24, cc_isOpenViewV H', ew]
      · simp (disch := first | omega | exact q_b_01 _) only [↓reduceIte, q_bk0, q_bk1, q_bk2, q_sg_b, q_b_0, q_b_n0, q_b_1, q_b_n1, q_b_T, q_b_F, q_sg_g, q_sg_sg, q_sg_xs, q_sg_id, q_gu_ne, q_gu_eq, q_g_fne, q_g_cpe, q_w_f, q_v_f, q_u_f, q_fn_f, q_cp_f, q_sg_pg, q_sg_hc, q_lt_t, q_lt_f, q_le_t, q_le_f, q_eq_t, q_eq_f, ne_eq, eq_self, Bool.false_eq_true, Bool.true_eq_false, not_true_eq_false, not_false_eq_true, true_and, and_true, false_and, and_false, true_or, or_true, false_or, or_false, if_true, if_false, Int.reduceAdd, Int.reduceMul, Int.reduceSub, Int.reduceNeg, ho, hw, decide_false, Bool.and_false, R_201_0, R_201_4, R_201_13, R_201_18, R_201_21, R_201_27, R_201_31, R_201_37, R_201_43, C_201_1, C_201_15, C_201_24, cc_isOpenViewV H', ew]
    · have ho' : vo m j = false := Bool.eq_false_iff.mpr ho
      simp (disch := first | omega | exact q_b_01 _) only [↓reduceIte, q_bk0, q_bk1, q_bk2, q_sg_b, q_b_0, q_b_n0, q_b_1, q_b_n1, q_b_T, q_b_F, q_sg_g, q_sg_sg, q_sg_xs, q_sg_id, q_gu_ne, q_gu_eq, q_g_fne, q_g_cpe, q_w_f, q_v_f, q_u_f, q_fn_f, q_cp_f, q_sg_pg, q_sg_hc, q_lt_t, q_lt_f, q_le_t, q_le_f, q_eq_t, q_eq_f, ne_eq, eq_self, Bool.false_eq_true, Bool.true_eq_false, not_true_eq_false, not_false_eq_true, true_and, and_true, false_and, and_false, true_or, or_true, false_or, or_false, if_true, if_false, Int.reduceAdd, Int.reduceMul, Int.reduceSub, Int.reduceNeg, ho', Bool.false_and, R_201_0, R_201_4, R_201_13, R_201_18, R_201_21, R_201_27, R_201_31, R_201_37, R_201_43, C_201_1, C_201_15, C_201_24, cc_isOpenViewV H']) (t0 := 0) trivial
  refine Eq.trans key.1 ?_
  rw [R_201_8]
  simp (disch := first | omega | exact q_b_01 _) only [↓reduceIte, q_bk0, q_bk1, q_bk2, q_sg_b, q_b_0, q_b_n0, q_b_1, q_b_n1, q_b_T, q_b_F, q_sg_g, q_sg_sg, q_sg_xs, q_sg_id, q_gu_ne, q_gu_eq, q_g_fne, q_g_cpe, q_w_f, q_v_f, q_u_f, q_fn_f, q_cp_f, q_sg_pg, q_sg_hc, q_lt_t, q_lt_f, q_le_t, q_le_f, q_eq_t, q_eq_f, ne_eq, eq_self, Bool.false_eq_true, Bool.true_eq_false, not_true_eq_false, not_false_eq_true, true_and, and_true, false_and, and_false, true_or, or_true, false_or, or_false, if_true, if_false, Int.reduceAdd, Int.reduceMul, Int.reduceSub, Int.reduceNeg, R_201_0, R_201_4, R_201_13, R_201_18, R_201_21, R_201_27, R_201_31, R_201_37, R_201_43, C_201_1, C_201_15, C_201_24]
  rfl
end SE
