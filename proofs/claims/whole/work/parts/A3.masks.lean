/-! THE REFERENCE: what the law says of a write -/
section AS3
variable {d L : Nat} {xs : Nat → Int32} {s t u : Nat → Int → Int32} {O : Nat → Int64} {c : Bool × Nat × Nat} {b : Int} {m pl F : Int → Int}
theorem lAll_0 (T : Int → Int) : lAll T 0 = .inr [] := by
  unfold lAll
  rw [if_pos]
  unfold thg
  rw [if_pos]
  exact run_ge 32 32 T 0 0
def fct (s : Nat → Int → Int32) (m F : Int → Int) : Nat → Int → Int32 := q_u (q_u (q_u (q_u (q_u (q_u (q_u (q_u (q_u s 285 15 (m 3)) 285 16 1) 291 0 (F 0)) 291 1 (F 1)) 291 2 (F 2)) 291 3 (F 3)) 291 4 (F 4)) 291 5 (F 5)) 291 6 (F 6)
def fcr (s : Nat → Int → Int32) (E : Int) : Nat → Int → Int32 := q_u (q_u (q_u (q_u (q_u s 285 12 (-1)) 285 9 1049) 285 10 E) 285 11 0) 285 13 0
theorem fct_n {k : Nat} {z : Int} (h1 : ¬ (k = 285 ∧ (z = 15 ∨ z = 16))) (h2 : k ≠ 291) : fct s m F k z = s k z := by
  unfold fct
  rw [q_u_n (by omega), q_u_n (by omega), q_u_n (by omega), q_u_n (by omega), q_u_n (by omega), q_u_n (by omega), q_u_n (by omega), q_u_n (by omega), q_u_n (by omega)]
theorem fcr_n {E : Int} {k : Nat} {z : Int} (h1 : ¬ (k = 285 ∧ (9 ≤ z ∧ z ≤ 13))) : fcr s E k z = s k z := by
  unfold fcr
  rw [q_u_n (by omega), q_u_n (by omega), q_u_n (by omega), q_u_n (by omega), q_u_n (by omega)]
theorem fcr_g {E : Int} {k : Nat} {z : Int} (h1 : ¬ (k = 285 ∧ (9 ≤ z ∧ z ≤ 13))) : q_g (fcr s E) k z = q_g s k z := by
  show (fcr s E k z).toInt = _
  rw [fcr_n h1]
  rfl
theorem fct_g {k : Nat} {z : Int} (h1 : ¬ (k = 285 ∧ (z = 15 ∨ z = 16))) (h2 : k ≠ 291) : q_g (fct s m F) k z = q_g s k z := by
  show (fct s m F k z).toInt = _
  rw [fct_n h1 h2]
  rfl
theorem fct_F (hR : Rg F) : Fc F (fct s m F) := fun k k0 k1 => by
  have gs : ∀ x, 0 ≤ x → x < 7 → q_sg (F x) = F x := fun x x0 x1 => by
    have := hR x x0 x1
    exact q_sg_id (by omega) (by omega)
  unfold fct
  obtain e | e | e | e | e | e | e : k = 0 ∨ k = 1 ∨ k = 2 ∨ k = 3 ∨ k = 4 ∨ k = 5 ∨ k = 6 := by omega
  all_goals
    subst e
    simp (disch := first | omega | exact q_b_01 _) only [q_gu_ne, q_gu_eq, gs]
theorem mm_asks {p : Int} (em : q_g s 286 = m) (I : Inv m b) {g lw ln le cd : Int → Int} (hL : LawP m g lw ln le cd) (p0 : 0 ≤ p) (p1 : p < 48) (h : p < 2 ∨ q_g s 305 (16 * p) = pl (16 * p) ∧ q_g s 305 (16 * p + 1) = pl (16 * p + 1)) (hR : Rg (fcs m pl p)) : ∃ t, EV (d + 36) 253 0 [.ref 285, .int (q_I (p)), .null, .null, .null] [] (q_h L xs s O c) = some (.inl none, q_h L xs (t) O c) ∧ q_g t 285 15 = clp (m 3 + LTot m (fcs m pl p) 2 - LTot m (fcs m pl p) 3) ∧ q_g t 285 16 = 1 + LTot m (fcs m pl p) 4 ∧ ∀ k z, ¬ (k = 285 ∧ (z = 9 ∨ z = 10 ∨ z = 11 ∨ z = 13 ∨ z = 15 ∨ z = 16)) → k ≠ 291 → t k z = s k z := by
  obtain ⟨f0, f1, f2, f3, f4, f5, f6⟩ := fcs_at m pl p
  have hF := fct_F (s := s) (m := m) hR
  have h2r : -2147483648 ≤ m 2 ∧ m 2 < 2147483648 := by
    rw [← em]
    exact q_g_rg s 286 2
  have h1r : -2147483648 ≤ m 1 ∧ m 1 < 2147483648 := by
    rw [← em]
    exact q_g_rg s 286 1
  have i3 := I.2.2.1
  have em1 : q_g s 286 1 = m 1 := by rw [em]
  have em2 : q_g s 286 2 = m 2 := by rw [em]
  have em3 : q_g s 286 3 = m 3 := by rw [em]
  have em5 : q_g s 286 5 = m 5 := by rw [em]
  have st : ∃ (x2 : Int), EV (d + 36) 253 0 [.ref 285, .int (q_I (p)), .null, .null, .null] [] (q_h L xs s O c) = EV (d + 36) 253 187 [.ref 285, .int (q_I (p)), .int (q_I (x2)), .int (q_I (q_g s 285 12)), .null] [.int (q_I (1)), .ref 285] (q_h L xs (fcr (fct s m (fcs m pl p)) (if m 1 < 1 then 0 else m 2)) O c) := by
    refine ⟨fcs m pl p 1, ?_⟩
    unfold fcr fct
    have f5' : fcs m pl p 5 = q_S (fun r => q_b (m (9 + 2 * r) ≠ -1)) 0 4 := rfl
    by_cases cp : p < 2
    · rw [if_pos cp] at f1 f3
      by_cases c1 : m 1 < 1
      · rw [if_pos c1]
        simp (disch := first | omega | exact q_b_01 _) only [↓reduceIte, q_bk0, q_bk1, q_bk2, q_sg_b, q_b_0, q_b_n0, q_b_1, q_b_n1, q_b_T, q_b_F, q_sg_g, q_sg_sg, q_sg_xs, q_sg_id, q_gu_ne, q_gu_eq, q_g_fne, q_g_cpe, q_w_f, q_v_f, q_u_f, q_fn_f, q_cp_f, q_sg_pg, q_sg_hc, q_lt_t, q_lt_f, q_le_t, q_le_f, q_eq_t, q_eq_f, ne_eq, eq_self, Bool.false_eq_true, Bool.true_eq_false, not_true_eq_false, not_false_eq_true, true_and, and_true, false_and, and_false, true_or, or_true, false_or, or_false, if_true, if_false, Int.reduceAdd, Int.reduceMul, Int.reduceSub, Int.reduceNeg, em, em1, em2, em3, em5, mm_of, mm_version, mm_openMany, R_253_0, R_253_5, R_253_9, R_253_20, R_253_22, R_253_30, R_253_33, R_253_38, R_253_45, R_253_52, R_253_63, R_253_66, R_253_67, R_253_77, R_253_81, R_253_92, R_253_93, R_253_102, R_253_107, R_253_108, R_253_117, R_253_118, R_253_130, R_253_133, R_253_134, R_253_144, R_253_151, R_253_158, R_253_162, R_253_166, R_253_172, R_253_175, R_253_180, R_253_185, R_253_190, R_253_197, R_253_211, R_253_214, C_253_60, C_253_99, C_253_114, C_253_205, C_253_208, f0, f1, f2, f3, f4, f5', f6]
      · rw [if_neg c1]
        simp (disch := first | omega | exact q_b_01 _) only [↓reduceIte, q_bk0, q_bk1, q_bk2, q_sg_b, q_b_0, q_b_n0, q_b_1, q_b_n1, q_b_T, q_b_F, q_sg_g, q_sg_sg, q_sg_xs, q_sg_id, q_gu_ne, q_gu_eq, q_g_fne, q_g_cpe, q_w_f, q_v_f, q_u_f, q_fn_f, q_cp_f, q_sg_pg, q_sg_hc, q_lt_t, q_lt_f, q_le_t, q_le_f, q_eq_t, q_eq_f, ne_eq, eq_self, Bool.false_eq_true, Bool.true_eq_false, not_true_eq_false, not_false_eq_true, true_and, and_true, false_and, and_false, true_or, or_true, false_or, or_false, if_true, if_false, Int.reduceAdd, Int.reduceMul, Int.reduceSub, Int.reduceNeg, em, em1, em2, em3, em5, mm_of, mm_version, mm_openMany, R_253_0, R_253_5, R_253_9, R_253_20, R_253_22, R_253_30, R_253_33, R_253_38, R_253_45, R_253_52, R_253_63, R_253_66, R_253_67, R_253_77, R_253_81, R_253_92, R_253_93, R_253_102, R_253_107, R_253_108, R_253_117, R_253_118, R_253_130, R_253_133, R_253_134, R_253_144, R_253_151, R_253_158, R_253_162, R_253_166, R_253_172, R_253_175, R_253_180, R_253_185, R_253_190, R_253_197, R_253_211, R_253_214, C_253_60, C_253_99, C_253_114, C_253_205, C_253_208, f0, f1, f2, f3, f4, f5', f6]
    · rw [if_neg cp] at f1 f3
      rcases h with h | ⟨h1, h2⟩
      · omega
      · have h1' : q_g s 305 (16 * p + 0) = pl (16 * p) := by rw [Int.add_zero, h1]
        by_cases c1 : m 1 < 1
        · rw [if_pos c1]
          simp (disch := first | omega | exact q_b_01 _) only [↓reduceIte, q_bk0, q_bk1, q_bk2, q_sg_b, q_b_0, q_b_n0, q_b_1, q_b_n1, q_b_T, q_b_F, q_sg_g, q_sg_sg, q_sg_xs, q_sg_id, q_gu_ne, q_gu_eq, q_g_fne, q_g_cpe, q_w_f, q_v_f, q_u_f, q_fn_f, q_cp_f, q_sg_pg, q_sg_hc, q_lt_t, q_lt_f, q_le_t, q_le_f, q_eq_t, q_eq_f, ne_eq, eq_self, Bool.false_eq_true, Bool.true_eq_false, not_true_eq_false, not_false_eq_true, true_and, and_true, false_and, and_false, true_or, or_true, false_or, or_false, if_true, if_false, Int.reduceAdd, Int.reduceMul, Int.reduceSub, Int.reduceNeg, em, em1, em2, em3, em5, mm_of, mm_version, mm_openMany, h1', h1, h2, Int.add_zero, R_253_0, R_253_5, R_253_9, R_253_20, R_253_22, R_253_30, R_253_33, R_253_38, R_253_45, R_253_52, R_253_63, R_253_66, R_253_67, R_253_77, R_253_81, R_253_92, R_253_93, R_253_102, R_253_107, R_253_108, R_253_117, R_253_118, R_253_130, R_253_133, R_253_134, R_253_144, R_253_151, R_253_158, R_253_162, R_253_166, R_253_172, R_253_175, R_253_180, R_253_185, R_253_190, R_253_197, R_253_211, R_253_214, C_253_60, C_253_99, C_253_114, C_253_205, C_253_208, f0, f1, f2, f3, f4, f5', f6]
        · rw [if_neg c1]
          simp (disch := first | omega | exact q_b_01 _) only [↓reduceIte, q_bk0, q_bk1, q_bk2, q_sg_b, q_b_0, q_b_n0, q_b_1, q_b_n1, q_b_T, q_b_F, q_sg_g, q_sg_sg, q_sg_xs, q_sg_id, q_gu_ne, q_gu_eq, q_g_fne, q_g_cpe, q_w_f, q_v_f, q_u_f, q_fn_f, q_cp_f, q_sg_pg, q_sg_hc, q_lt_t, q_lt_f, q_le_t, q_le_f, q_eq_t, q_eq_f, ne_eq, eq_self, Bool.false_eq_true, Bool.true_eq_false, not_true_eq_false, not_false_eq_true, true_and, and_true, false_and, and_false, true_or, or_true, false_or, or_false, if_true, if_false, Int.reduceAdd, Int.reduceMul, Int.reduceSub, Int.reduceNeg, em, em1, em2, em3, em5, mm_of, mm_version, mm_openMany, h1', h1, h2, Int.add_zero, R_253_0, R_253_5, R_253_9, R_253_20, R_253_22, R_253_30, R_253_33, R_253_38, R_253_45, R_253_52, R_253_63, R_253_66, R_253_67, R_253_77, R_253_81, R_253_92, R_253_93, R_253_102, R_253_107, R_253_108, R_253_117, R_253_118, R_253_130, R_253_133, R_253_134, R_253_144, R_253_151, R_253_158, R_253_162, R_253_166, R_253_172, R_253_175, R_253_180, R_253_185, R_253_190, R_253_197, R_253_211, R_253_214, C_253_60, C_253_99, C_253_114, C_253_205, C_253_208, f0, f1, f2, f3, f4, f5', f6]
  obtain ⟨x2, st⟩ := st
  have key : ∃ (T : Int → Int) (E : Int) (ls : List (Int × Int × List Int)), (if m 1 < 1 then 0 else m 2) = E ∧ TX T E ∧ lAll T E = .inr ls ∧ (∀ j, 0 ≤ j → j < E → m (1049 + j) = T j) ∧ (fl ls).length ≤ 400 ∧ ls.length ≤ 12 ∧ ∀ w, LTot m (fcs m pl p) w = tt ls (lvs (fcs m pl p) ls) w ls.length := by
    rcases hL with ⟨h1, h2⟩ | ⟨h1, h2, h3, ls, h4, h5, h6⟩
    · refine ⟨fun _ => 0, 0, [], if_pos (by omega), ⟨by omega, by omega, fun j _ _ => by omega⟩, lAll_0 _, fun j j0 j1 => by omega, by decide, by decide, fun w => ?_⟩
      unfold LTot
      rw [if_pos h1]
      rfl
    · by_cases c1 : m 1 < 1
      · have l0 : ls = [] := List.length_eq_zero_iff.mp (by omega)
        refine ⟨fun _ => 0, 0, [], if_pos c1, ⟨by omega, by omega, fun j _ _ => by omega⟩, lAll_0 _, fun j j0 j1 => by omega, by decide, by decide, fun w => ?_⟩
        unfold LTot
        rw [if_neg (by omega), h4, l0]
      · refine ⟨LT m, m 2, ls, if_neg c1, LT_TX h1 h2 h3, h4, fun j j0 j1 => (if_pos ⟨j0, j1⟩).symm, h6.2.2.2.1, h6.2.1, fun w => ?_⟩
        unfold LTot
        rw [if_neg (by omega), h4]
  obtain ⟨T, E, ls, e1, H, e2, e3, e4, e5, e6⟩ := key
  rw [e1] at st
  have hE := H.1
  have hE1 := H.2.1
  have g11 : q_g (fcr (fct s m (fcs m pl p)) E) 285 11 = 0 := by
    unfold fcr
    rw [q_gu_ne (by omega), q_gu_eq rfl]
    rfl
  have ms : MS T E (bs T E 0) (fcr (fct s m (fcs m pl p)) E) := by
    refine ⟨⟨?_, Or.inr ⟨?_, fun j j0 j1 => ?_⟩⟩, ?_, by rw [g11]; rfl, by rw [g11]; omega, by rw [g11]; exact hE⟩
    · unfold fcr
      rw [q_gu_ne (by omega), q_gu_ne (by omega), q_gu_eq rfl, q_sg_id (by omega) (by omega)]
    · unfold fcr
      rw [q_gu_ne (by omega), q_gu_ne (by omega), q_gu_ne (by omega), q_gu_eq rfl]
      rfl
    · rw [fcr_g (by omega), fct_g (by omega) (by omega), em]
      exact e3 j j0 j1
    · unfold fcr
      rw [q_gu_ne (by omega), q_gu_ne (by omega), q_gu_ne (by omega), q_gu_ne (by omega), q_gu_eq rfl]
      rfl
  obtain ⟨-, r⟩ := mm_reads1 (d := d) (L := L) (xs := xs) (O := O) (c := c) (F := fcs m pl p) H (fun k k0 k1 => by rw [fcr_g (by omega)]; exact hF k k0 k1) (by
    unfold fcr
    rw [q_gu_eq rfl]
    rfl) ms
  obtain ⟨t, vs, t1, t2, t3, t4, t5⟩ := r ls e2
  have ev := EvE_L hR t3
  have fu := EvL_fun hR e4 ev (lvs_ok ev)
  have g15 : q_g (fcr (fct s m (fcs m pl p)) E) 285 15 = m 3 := by
    rw [fcr_g (by omega)]
    unfold fct
    rw [q_gu_ne (by omega), q_gu_ne (by omega), q_gu_ne (by omega), q_gu_ne (by omega), q_gu_ne (by omega), q_gu_ne (by omega), q_gu_ne (by omega), q_gu_ne (by omega), q_gu_eq rfl, q_sg_id (by omega) (by omega)]
  have g16 : q_g (fcr (fct s m (fcs m pl p)) E) 285 16 = 1 := by
    rw [fcr_g (by omega)]
    unfold fct
    rw [q_gu_ne (by omega), q_gu_ne (by omega), q_gu_ne (by omega), q_gu_ne (by omega), q_gu_ne (by omega), q_gu_ne (by omega), q_gu_ne (by omega), q_gu_eq rfl]
    rfl
  have r2 := tt_rg (w := 2) ev ls.length (Nat.le_refl _)
  have r3 := tt_rg (w := 3) ev ls.length (Nat.le_refl _)
  have r4 := tt_rg (w := 4) ev ls.length (Nat.le_refl _)
  obtain ⟨a1, a2⟩ := t4
  rw [g15] at a1
  rw [g16] at a2
  rw [e6 2, e6 3, e6 4, ← tt_fun fu ls.length (Nat.le_refl _), ← tt_fun fu ls.length (Nat.le_refl _), ← tt_fun fu ls.length (Nat.le_refl _)]
  generalize tt ls vs 2 ls.length = x at *
  generalize tt ls vs 3 ls.length = y at *
  generalize tt ls vs 4 ls.length = z at *
  rw [q_sg_id (by omega) (by omega)] at a1 a2
  have a1' : q_g (q_u t 285 12 (q_g s 285 12)) 285 15 = m 3 + x - y := by rw [q_gu_ne (by omega), a1]
  refine ⟨q_u (q_u t 285 12 (q_g s 285 12)) 285 15 (clp (m 3 + x - y)), ?_, ?_, ?_, fun k w h1 h2 => ?_⟩
  · rw [st]
    simp (disch := first | omega | exact q_b_01 _) only [↓reduceIte, q_bk0, q_bk1, q_bk2, q_sg_b, q_b_0, q_b_n0, q_b_1, q_b_n1, q_b_T, q_b_F, q_sg_g, q_sg_sg, q_sg_xs, q_sg_id, q_gu_ne, q_gu_eq, q_g_fne, q_g_cpe, q_w_f, q_v_f, q_u_f, q_fn_f, q_cp_f, q_sg_pg, q_sg_hc, q_lt_t, q_lt_f, q_le_t, q_le_f, q_eq_t, q_eq_f, ne_eq, eq_self, Bool.false_eq_true, Bool.true_eq_false, not_true_eq_false, not_false_eq_true, true_and, and_true, false_and, and_false, true_or, or_true, false_or, or_false, if_true, if_false, Int.reduceAdd, Int.reduceMul, Int.reduceSub, Int.reduceNeg, t1, a1', mm_lesser, mm_greater, R_253_0, R_253_5, R_253_9, R_253_20, R_253_22, R_253_30, R_253_33, R_253_38, R_253_45, R_253_52, R_253_63, R_253_66, R_253_67, R_253_77, R_253_81, R_253_92, R_253_93, R_253_102, R_253_107, R_253_108, R_253_117, R_253_118, R_253_130, R_253_133, R_253_134, R_253_144, R_253_151, R_253_158, R_253_162, R_253_166, R_253_172, R_253_175, R_253_180, R_253_185, R_253_190, R_253_197, R_253_211, R_253_214, C_253_60, C_253_99, C_253_114, C_253_187, C_253_205, C_253_208]
    rw [clp_m]
  · rw [q_gu_eq rfl]
    unfold clp
    exact q_sg_id (by split <;> omega) (by split <;> omega)
  · rw [q_gu_ne (by omega), q_gu_ne (by omega), a2]
  · rw [q_u_n (by omega)]
    by_cases h12 : k = 285 ∧ w = 12
    · obtain ⟨rfl, rfl⟩ := h12
      have : q_u t 285 12 (q_g s 285 12) 285 12 = q_I (q_g s 285 12) := by simp [q_u]
      rw [this, q_I_g]
    · rw [q_u_n h12, t5 k w (by omega), fcr_n (by omega), fct_n (by omega) h2]
end AS3
