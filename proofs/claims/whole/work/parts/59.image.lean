/-! laws copied; undo, image, back -/
def isL (q : Nat) : Prop := q = 49 ∨ q = 55 ∨ q = 61
section LCP
variable {d L : Nat} {xs : Nat → Int32} {s : Nat → Int → Int32} {O : Nat → Int64} {c : Bool × Nat × Nat} {q q' : Nat}
theorem la_B (h : isL q) : ly_B q 4 [none, some (q + 1), some (q + 2), some (q + 3), some (q + 4), none, some (q + 5)] := by
  rcases h with e | e | e <;> subst e <;> exact ⟨rfl, by decide, by decide, by decide, by decide⟩
theorem la_A1 (h : isL q) : ly_A (q + 1) 12 .int := by
  rcases h with e | e | e <;> subst e <;> exact ⟨rfl, by decide, by decide, by decide, by decide⟩
theorem la_A2 (h : isL q) : ly_A (q + 2) 12 .int := by
  rcases h with e | e | e <;> subst e <;> exact ⟨rfl, by decide, by decide, by decide, by decide⟩
theorem la_A3 (h : isL q) : ly_A (q + 3) 12 .int := by
  rcases h with e | e | e <;> subst e <;> exact ⟨rfl, by decide, by decide, by decide, by decide⟩
theorem la_A4 (h : isL q) : ly_A (q + 4) 400 .int := by
  rcases h with e | e | e <;> subst e <;> exact ⟨rfl, by decide, by decide, by decide, by decide⟩
theorem la_g1 (h : isL q) : ex_get (q_h L xs s O c) q 4 1 = some (.ref (q + 1)) := q_gr (la_B h) rfl
theorem la_g2 (h : isL q) : ex_get (q_h L xs s O c) q 4 2 = some (.ref (q + 2)) := q_gr (la_B h) rfl
theorem la_g3 (h : isL q) : ex_get (q_h L xs s O c) q 4 3 = some (.ref (q + 3)) := q_gr (la_B h) rfl
theorem la_g4 (h : isL q) : ex_get (q_h L xs s O c) q 4 4 = some (.ref (q + 4)) := q_gr (la_B h) rfl
theorem la_g0 (h : isL q) : ex_get (q_h L xs s O c) q 4 0 = some (.int (q_I (q_g s q 0))) := q_gi (la_B h) rfl
theorem la_p0 (h : isL q) {v : Int} : ex_put (q_h L xs s O c) q 4 0 0 (.int (q_I v)) = some (q_h L xs (q_u s q 0 v) O c) := q_pi (la_B h) rfl
theorem la_g5 (h : isL q) : ex_get (q_h L xs s O c) q 4 5 = some (.int (q_I (q_g s q 5))) := q_gi (la_B h) rfl
theorem la_p5 (h : isL q) {v : Int} : ex_put (q_h L xs s O c) q 4 5 0 (.int (q_I v)) = some (q_h L xs (q_u s q 5 v) O c) := q_pi (la_B h) rfl
theorem la_c1 (h : isL q) (h' : isL q') : ex_cpi (q_h L xs s O c) (q' + 1) (q_I 0) (q + 1) (q_I 0) (q_I 12) = some (q_h L xs (q_cp s (q' + 1) 0 (q + 1) 0 12) O c) := q_cpi (la_A1 h') (la_A1 h) (by decide) (by decide) (by decide) (by decide) (by decide) (by decide) (by decide)
theorem la_c2 (h : isL q) (h' : isL q') : ex_cpi (q_h L xs s O c) (q' + 2) (q_I 0) (q + 2) (q_I 0) (q_I 12) = some (q_h L xs (q_cp s (q' + 2) 0 (q + 2) 0 12) O c) := q_cpi (la_A2 h') (la_A2 h) (by decide) (by decide) (by decide) (by decide) (by decide) (by decide) (by decide)
theorem la_c3 (h : isL q) (h' : isL q') : ex_cpi (q_h L xs s O c) (q' + 3) (q_I 0) (q + 3) (q_I 0) (q_I 12) = some (q_h L xs (q_cp s (q' + 3) 0 (q + 3) 0 12) O c) := q_cpi (la_A3 h') (la_A3 h) (by decide) (by decide) (by decide) (by decide) (by decide) (by decide) (by decide)
theorem la_c4 (h : isL q) (h' : isL q') : ex_cpi (q_h L xs s O c) (q' + 4) (q_I 0) (q + 4) (q_I 0) (q_I 400) = some (q_h L xs (q_cp s (q' + 4) 0 (q + 4) 0 400) O c) := q_cpi (la_A4 h') (la_A4 h) (by decide) (by decide) (by decide) (by decide) (by decide) (by decide) (by decide)
theorem la_rc (h : isL q) (r : List Value) : ex_rc (q_h L xs s O c) 6 (.ref q :: r) = true := q_rcv (la_B h) r
end LCP
def cpL (s : Nat → Int → Int32) (q q' : Nat) : Nat → Int → Int32 := q_cp (q_cp (q_cp (q_cp (q_u (q_u s q 0 (q_g s q' 0)) q 5 (q_g s q' 5)) (q' + 1) 0 (q + 1) 0 12) (q' + 2) 0 (q + 2) 0 12) (q' + 3) 0 (q + 3) 0 12) (q' + 4) 0 (q + 4) 0 400
section LCP2
variable {d L : Nat} {xs : Nat → Int32} {s : Nat → Int → Int32} {O : Nat → Int64} {c : Bool × Nat × Nat} {q q' : Nat} {b : Int}
theorem cc_copyL (h : isL q) (h' : isL q') (hne : q ≠ q') : EV (d + 1) 68 0 [.ref q, .ref q'] [] (q_h L xs s O c) = some (.inl none, q_h L xs (cpL s q q') O c) := by
  have e5 : q_g (q_u s q 0 (q_g s q' 0)) q' 5 = q_g s q' 5 := q_gu_ne (by omega)
  simp (disch := first | omega | exact q_b_01 _) only [↓reduceIte, q_bk0, q_bk1, q_bk2, q_sg_b, q_b_0, q_b_n0, q_b_1, q_b_n1, q_b_T, q_b_F, q_sg_g, q_sg_sg, q_sg_xs, q_sg_id, q_gu_ne, q_gu_eq, q_g_fne, q_g_cpe, q_w_f, q_v_f, q_u_f, q_fn_f, q_cp_f, q_sg_pg, q_sg_hc, q_lt_t, q_lt_f, q_le_t, q_le_f, q_eq_t, q_eq_f, ne_eq, eq_self, Bool.false_eq_true, Bool.true_eq_false, not_true_eq_false, not_false_eq_true, true_and, and_true, false_and, and_false, true_or, or_true, false_or, or_false, if_true, if_false, Int.reduceAdd, Int.reduceMul, Int.reduceSub, Int.reduceNeg, e5, R_68_0, R_68_5, R_68_8, R_68_13, R_68_16, R_68_20, R_68_25, R_68_31, R_68_35, R_68_40, R_68_46, R_68_50, R_68_55, R_68_61, R_68_65, R_68_70, R_68_77, C_68_28, C_68_43, C_68_58, C_68_74, la_g0 h, la_g0 h', la_g1 h, la_g1 h', la_g2 h, la_g2 h', la_g3 h, la_g3 h', la_g4 h, la_g4 h', la_g5 h, la_g5 h', la_p0 h, la_p5 h, la_c1 h h', la_c2 h h', la_c3 h h', la_c4 h h']
  rfl
theorem cpL_n {k : Nat} {z : Int} (h : k < q ∨ q + 4 < k) : cpL s q q' k z = s k z := by
  unfold cpL q_u q_cp
  simp only [show ¬ k = q by omega, show ¬ k = q + 1 by omega, show ¬ k = q + 2 by omega, show ¬ k = q + 3 by omega, show ¬ k = q + 4 by omega, false_and, if_false]
theorem cpL_1 (hd : q + 5 ≤ q' ∨ q' + 5 ≤ q) {z : Int} (h0 : 0 ≤ z) (h1 : z < 12) : q_g (cpL s q q') (q + 1) z = q_g s (q' + 1) z := by
  unfold cpL
  simp (disch := first | omega | exact q_b_01 _) only [q_gu_ne, q_g_cpe, q_g_cp0]
theorem cpL_2 (hd : q + 5 ≤ q' ∨ q' + 5 ≤ q) {z : Int} (h0 : 0 ≤ z) (h1 : z < 12) : q_g (cpL s q q') (q + 2) z = q_g s (q' + 2) z := by
  unfold cpL
  simp (disch := first | omega | exact q_b_01 _) only [q_gu_ne, q_g_cpe, q_g_cp0]
theorem cpL_3 (hd : q + 5 ≤ q' ∨ q' + 5 ≤ q) {z : Int} (h0 : 0 ≤ z) (h1 : z < 12) : q_g (cpL s q q') (q + 3) z = q_g s (q' + 3) z := by
  unfold cpL
  simp (disch := first | omega | exact q_b_01 _) only [q_gu_ne, q_g_cpe, q_g_cp0]
theorem cpL_4 (hd : q + 5 ≤ q' ∨ q' + 5 ≤ q) {z : Int} (h0 : 0 ≤ z) (h1 : z < 400) : q_g (cpL s q q') (q + 4) z = q_g s (q' + 4) z := by
  unfold cpL
  simp (disch := first | omega | exact q_b_01 _) only [q_gu_ne, q_g_cpe, q_g_cp0]
theorem cpL_F (hd : q + 5 ≤ q' ∨ q' + 5 ≤ q) {z : Int} (h : z = 0 ∨ z = 5) : q_g (cpL s q q') q z = q_g s q' z := by
  unfold cpL
  rcases h with e | e <;> subst e <;> simp (disch := first | omega | exact q_b_01 _) only [q_g_cpe, q_gu_ne, q_gu_eq, q_sg_g]
theorem LawP_cp {m m' g lw ln le cd g' lw' ln' le' cd' : Int → Int} (h : LawP m g lw ln le cd) (e : ∀ z, z = 1 ∨ z = 2 ∨ 1049 ≤ z ∧ z < 1449 → m' z = m z) (e0 : g' 0 = g 0) (e5 : g' 5 = g 5) (e1 : ∀ z, 0 ≤ z → z < 12 → lw' z = lw z ∧ ln' z = ln z ∧ le' z = le z) (e4 : ∀ z, 0 ≤ z → z < 400 → cd' z = cd z) : LawP m' g' lw' ln' le' cd' := by
  have f1 := e 1 (by omega)
  have f2 := e 2 (by omega)
  rcases h with ⟨h1, h2⟩ | ⟨h1, h2, h3, ls, h4, h5, h6, h7, h8, h9, h10, h11⟩
  · exact Or.inl ⟨by rw [f1, h1], by rw [e0, h2]⟩
  · have eT : LT m' = LT m := by
      funext j
      unfold LT
      rw [f2]
      by_cases hj : 0 ≤ j ∧ j < m 2
      · rw [if_pos hj, if_pos hj, e (1049 + j) (by omega)]
      · rw [if_neg hj, if_neg hj]
    refine Or.inr ⟨by rw [f2]; exact h1, by rw [f2]; exact h2, fun j j0 j1 => ?_, ls, by rw [eT, f2]; exact h4, by rw [f1]; exact h5, by rw [e0]; exact h6, h7, fun k hk => ?_, h9, by rw [e5]; exact h10, fun k hk => ?_⟩
    · rw [f2] at j1
      rw [e (1049 + j) (by omega)]
      exact h3 j j0 j1
    · obtain ⟨g1, g2, g3⟩ := e1 k (by omega) (by omega)
      rw [g1, g2, g3]
      exact h8 k hk
    · rw [e4 k (by omega) (by omega)]
      exact h11 k hk
/-- a call without an answer, of both -/
def OpV (Bg : (Nat → Int → Int32) → Prop) (W M : ex_H → Option (ex_R × ex_H)) (L : Nat) (xs : Nat → Int32) (s : Nat → Int → Int32) (O : Nat → Int64) (c : Bool × Nat × Nat) : Prop :=
  ∃ (t t' : Nat → Int → Int32), W (q_h L xs s O c) = some (.inl none, q_h L xs t O c) ∧ M (q_h L xs t O c) = some (.inl none, q_h L xs t' O c) ∧ Bg t'
theorem op_image (B : Big b s) : OpV (Big b) (fun h => EV (d + 40) 178 0 [.ref 1] [] h) (fun h => EV (d + 40) 348 0 [.ref 285, .null] [] h) L xs s O c := by
  have h35 : isS 35 := Or.inr (Or.inr (Or.inl rfl))
  have h7 : isS 7 := Or.inl rfl
  have h61 : isL 61 := Or.inr (Or.inr rfl)
  have h49 : isL 49 := Or.inl rfl
  obtain ⟨u, e1, e2⟩ := q_for (fun j u => EV (d + 40) 348 7 [.ref 285, .int (q_I (j))] [] (q_h L xs (u) O c)) (fun j u => u = q_fn (q_u (q_u (cpL (cpS s 35 7) 61 49) 1 4 1) 285 0 0) 287 0 j (q_g s 286)) (lo := 0) (hi := 1449) (by omega) (fun j u a1 a2 eu => by
    have g : q_g u 286 j = q_g s 286 j := by
      rw [eu, q_g_fne (by omega), q_gu_ne (by omega), q_gu_ne (by omega)]
      show (cpL (cpS s 35 7) 61 49 286 j).toInt = _
      rw [cpL_n (by omega), cpS_n (by omega)]
      rfl
    refine ⟨_, ?_, rfl⟩
    rw [R_348_7]
    simp (disch := first | omega | exact q_b_01 _) only [↓reduceIte, q_bk0, q_bk1, q_bk2, q_sg_b, q_b_0, q_b_n0, q_b_1, q_b_n1, q_b_T, q_b_F, q_sg_g, q_sg_sg, q_sg_xs, q_sg_id, q_gu_ne, q_gu_eq, q_g_fne, q_g_cpe, q_w_f, q_v_f, q_u_f, q_fn_f, q_cp_f, q_sg_pg, q_sg_hc, q_lt_t, q_lt_f, q_le_t, q_le_f, q_eq_t, q_eq_f, ne_eq, eq_self, Bool.false_eq_true, Bool.true_eq_false, not_true_eq_false, not_false_eq_true, true_and, and_true, false_and, and_false, true_or, or_true, false_or, or_false, if_true, if_false, Int.reduceAdd, Int.reduceMul, Int.reduceSub, Int.reduceNeg, g, R_348_0, R_348_5, R_348_14, R_348_25, R_348_26, R_348_32, R_348_37]
    rw [eu, q_fn_1 _ 287 (v := q_g s 286 j) (q_g s 286) a1 rfl]) (t := q_u (q_u (cpL (cpS s 35 7) 61 49) 1 4 1) 285 0 0) (by rw [q_fn_0])
  refine ⟨q_u (cpL (cpS s 35 7) 61 49) 1 4 1, q_u u 285 3 1, ?_, ?_, ?_⟩
  · simp (disch := first | omega | exact q_b_01 _) only [↓reduceIte, q_bk0, q_bk1, q_bk2, q_sg_b, q_b_0, q_b_n0, q_b_1, q_b_n1, q_b_T, q_b_F, q_sg_g, q_sg_sg, q_sg_xs, q_sg_id, q_gu_ne, q_gu_eq, q_g_fne, q_g_cpe, q_w_f, q_v_f, q_u_f, q_fn_f, q_cp_f, q_sg_pg, q_sg_hc, q_lt_t, q_lt_f, q_le_t, q_le_f, q_eq_t, q_eq_f, ne_eq, eq_self, Bool.false_eq_true, Bool.true_eq_false, not_true_eq_false, not_false_eq_true, true_and, and_true, false_and, and_false, true_or, or_true, false_or, or_false, if_true, if_false, Int.reduceAdd, Int.reduceMul, Int.reduceSub, Int.reduceNeg, R_178_0, R_178_11, R_178_22, R_178_27, C_178_8, C_178_19, cc_copyFrom h35 h7, cc_copyL h61 h49]
  · simp (disch := first | omega | exact q_b_01 _) only [↓reduceIte, q_bk0, q_bk1, q_bk2, q_sg_b, q_b_0, q_b_n0, q_b_1, q_b_n1, q_b_T, q_b_F, q_sg_g, q_sg_sg, q_sg_xs, q_sg_id, q_gu_ne, q_gu_eq, q_g_fne, q_g_cpe, q_w_f, q_v_f, q_u_f, q_fn_f, q_cp_f, q_sg_pg, q_sg_hc, q_lt_t, q_lt_f, q_le_t, q_le_f, q_eq_t, q_eq_f, ne_eq, eq_self, Bool.false_eq_true, Bool.true_eq_false, not_true_eq_false, not_false_eq_true, true_and, and_true, false_and, and_false, true_or, or_true, false_or, or_false, if_true, if_false, Int.reduceAdd, Int.reduceMul, Int.reduceSub, Int.reduceNeg, R_348_0, R_348_5, R_348_14, R_348_25, R_348_26, R_348_32, R_348_37]
    refine Eq.trans e1 ?_
    rw [R_348_7]
    simp (disch := first | omega | exact q_b_01 _) only [↓reduceIte, q_bk0, q_bk1, q_bk2, q_sg_b, q_b_0, q_b_n0, q_b_1, q_b_n1, q_b_T, q_b_F, q_sg_g, q_sg_sg, q_sg_xs, q_sg_id, q_gu_ne, q_gu_eq, q_g_fne, q_g_cpe, q_w_f, q_v_f, q_u_f, q_fn_f, q_cp_f, q_sg_pg, q_sg_hc, q_lt_t, q_lt_f, q_le_t, q_le_f, q_eq_t, q_eq_f, ne_eq, eq_self, Bool.false_eq_true, Bool.true_eq_false, not_true_eq_false, not_false_eq_true, true_and, and_true, false_and, and_false, true_or, or_true, false_or, or_false, if_true, if_false, Int.reduceAdd, Int.reduceMul, Int.reduceSub, Int.reduceNeg, R_348_0, R_348_5, R_348_14, R_348_25, R_348_26, R_348_32, R_348_37]
  · have uN : ∀ k z, ¬ (35 ≤ k ∧ k ≤ 48) → ¬ (61 ≤ k ∧ k ≤ 65) → ¬ (k = 1 ∧ z = 4) → ¬ (k = 285 ∧ (z = 0 ∨ z = 3)) → k ≠ 287 → q_u u 285 3 1 k z = s k z := fun k z c1 c2 c3 c4 c5 => by
      rw [q_u_n (by omega), e2, q_fn_n (by omega), q_u_n (by omega), q_u_n (by omega), cpL_n (by omega), cpS_n (by omega)]
    have uG : ∀ k z, ¬ (35 ≤ k ∧ k ≤ 48) → ¬ (61 ≤ k ∧ k ≤ 65) → ¬ (k = 1 ∧ z = 4) → ¬ (k = 285 ∧ (z = 0 ∨ z = 3)) → k ≠ 287 → q_g (q_u u 285 3 1) k z = q_g s k z := fun k z c1 c2 c3 c4 c5 => by
      show (q_u u 285 3 1 k z).toInt = _
      rw [uN k z c1 c2 c3 c4 c5]
      rfl
    have uF : ∀ k, ¬ (35 ≤ k ∧ k ≤ 48) → ¬ (61 ≤ k ∧ k ≤ 65) → k ≠ 1 → k ≠ 285 → k ≠ 287 → q_g (q_u u 285 3 1) k = q_g s k := fun k c1 c2 c3 c4 c5 => funext fun z => uG k z c1 c2 (by omega) (by omega) c5
    obtain ⟨⟨a1, a2, a3⟩, a4, a5, ⟨h6, A0, A1, n0, n1, hB⟩, a7⟩ := B
    have fb : blk (q_u u 285 3 1) = blk s := by
      funext j z
      exact uG 289 _ (by omega) (by omega) (by omega) (by omega) (by omega)
    have fh : hst (q_u u 285 3 1) = hst s := by
      funext j
      unfold hst
      rw [uF 71 (by omega) (by omega) (by omega) (by omega) (by omega)]
    have hd : 35 + 14 ≤ 7 ∨ 7 + 14 ≤ 35 := by omega
    have c35 : ∀ k z, 35 ≤ k → k ≤ 48 → q_g (q_u u 285 3 1) k z = q_g (cpS s 35 7) k z := fun k z k0 k1 => by
      rw [q_gu_ne (by omega), e2, q_g_fne (by omega), q_gu_ne (by omega), q_gu_ne (by omega)]
      show (cpL (cpS s 35 7) 61 49 k z).toInt = _
      rw [cpL_n (by omega)]
      rfl
    have c61 : ∀ k z, 61 ≤ k → k ≤ 65 → q_g (q_u u 285 3 1) k z = q_g (cpL (cpS s 35 7) 61 49) k z := fun k z k0 k1 => by
      rw [q_gu_ne (by omega), e2, q_g_fne (by omega), q_gu_ne (by omega), q_gu_ne (by omega)]
    have e287 : ∀ z, 0 ≤ z → z < 1449 → q_g (q_u u 285 3 1) 287 z = q_g s 286 z := fun z z0 z1 => by
      rw [q_gu_ne (by omega), e2, q_g_fn, if_pos ⟨rfl, z0, z1⟩, q_sg_g]
    have l49 : ∀ k z, 49 ≤ k → k ≤ 53 → q_g (cpS s 35 7) k z = q_g s k z := fun k z k0 k1 => by
      show (cpS s 35 7 k z).toInt = _
      rw [cpS_n (by omega)]
      rfl
    have hdl : 61 + 5 ≤ 49 ∨ 49 + 5 ≤ 61 := by omega
    refine ⟨⟨?_, ?_, ?_⟩, ?_, ?_, ?_, ?_⟩
    · rw [uF 286 (by omega) (by omega) (by omega) (by omega) (by omega)]
      exact rb_sm a1 (fun k h1 h2 => uF k (by omega) (by omega) (by omega) (by omega) (by omega))
    · rw [uF 286 (by omega) (by omega) (by omega) (by omega) (by omega)]
      exact a2
    · rw [uF 286 (by omega) (by omega) (by omega) (by omega) (by omega), uF 49 (by omega) (by omega) (by omega) (by omega) (by omega), uF 50 (by omega) (by omega) (by omega) (by omega) (by omega), uF 51 (by omega) (by omega) (by omega) (by omega) (by omega), uF 52 (by omega) (by omega) (by omega) (by omega) (by omega), uF 53 (by omega) (by omega) (by omega) (by omega) (by omega)]
      exact a3
    · rw [uG 285 8 (by omega) (by omega) (by omega) (by omega) (by omega), uF 2 (by omega) (by omega) (by omega) (by omega) (by omega), uF 3 (by omega) (by omega) (by omega) (by omega) (by omega), uF 290 (by omega) (by omega) (by omega) (by omega) (by omega)]
      exact a4
    · rw [uG 285 12 (by omega) (by omega) (by omega) (by omega) (by omega), uF 2 (by omega) (by omega) (by omega) (by omega) (by omega)]
      exact a5
    · rw [uG 285 6 (by omega) (by omega) (by omega) (by omega) (by omega), uF 71 (by omega) (by omega) (by omega) (by omega) (by omega), uF 286 (by omega) (by omega) (by omega) (by omega) (by omega), fb, fh]
      refine ⟨h6, A0, A1, n0, n1, fun j h1 h2 => ?_⟩
      obtain ⟨d1, d2, d3, d4⟩ := hB j h1 h2
      have := hst_rg s j
      exact ⟨rb_sm d1 (fun k h1 h2 => uF k (by omega) (by omega) (by omega) (by omega) (by omega)), d2, d3, d4⟩
    · have q3 : q_g (q_u u 285 3 1) 285 3 = 1 := by
        rw [q_gu_eq rfl]
        rfl
      have q4 : q_g (q_u u 285 3 1) 1 4 = 1 := by
        rw [q_gu_ne (by omega), e2, q_g_fne (by omega), q_gu_ne (by omega), q_gu_eq rfl]
        rfl
      refine ⟨by rw [q3, q4], Or.inr q4, fun _ => ⟨RB_cp a2 (fun z z0 z1 => e287 z z0 (by omega)) a1 (fun z z0 z1 => ?_) (fun z z0 z1 => ?_) (fun z z0 z1 => ?_) (fun z z0 z1 => ?_) (fun z z0 z1 => ?_) (fun z z0 z1 => ?_) (fun z hz => ?_), Inv_ext (fun z z0 z1 => e287 z z0 (by omega)) a2, LawP_cp a3 (fun z hz => e287 z (by omega) (by omega)) ?_ ?_ (fun z z0 z1 => ?_) (fun z z0 z1 => ?_)⟩⟩
      · rw [c35 (35 + 2) z (by omega) (by omega), c35 (35 + 3) z (by omega) (by omega), c35 (35 + 4) z (by omega) (by omega), c35 (35 + 5) z (by omega) (by omega)]
        exact ⟨cpS_2 hd z0 z1, cpS_3 hd z0 z1, cpS_4 hd z0 z1, cpS_5 hd z0 z1⟩
      · rw [c35 (35 + 6) z (by omega) (by omega), c35 (35 + 7) z (by omega) (by omega)]
        exact ⟨cpS_6 hd z0 z1, cpS_7 hd z0 z1⟩
      · rw [c35 (35 + 8) z (by omega) (by omega)]
        exact cpS_8 hd z0 z1
      · rw [c35 (35 + 9) z (by omega) (by omega), c35 (35 + 10) z (by omega) (by omega)]
        exact ⟨cpS_9 hd z0 z1, cpS_10 hd z0 z1⟩
      · rw [c35 (35 + 11) z (by omega) (by omega), c35 (35 + 12) z (by omega) (by omega)]
        exact ⟨cpS_11 hd z0 z1, cpS_12 hd z0 z1⟩
      · rw [c35 (35 + 13) z (by omega) (by omega)]
        exact cpS_13 hd z0 z1
      · rw [c35 35 z (by omega) (by omega)]
        exact cpS_F hd hz
      · rw [c61 61 0 (by omega) (by omega), cpL_F hdl (by omega), l49 49 0 (by omega) (by omega)]
      · rw [c61 61 5 (by omega) (by omega), cpL_F hdl (by omega), l49 49 5 (by omega) (by omega)]
      · rw [c61 62 z (by omega) (by omega), c61 63 z (by omega) (by omega), c61 64 z (by omega) (by omega)]
        exact ⟨(cpL_1 hdl z0 z1).trans (l49 50 z (by omega) (by omega)), (cpL_2 hdl z0 z1).trans (l49 51 z (by omega) (by omega)), (cpL_3 hdl z0 z1).trans (l49 52 z (by omega) (by omega))⟩
      · rw [c61 65 z (by omega) (by omega)]
        exact (cpL_4 hdl z0 z1).trans (l49 53 z (by omega) (by omega))
end LCP2
