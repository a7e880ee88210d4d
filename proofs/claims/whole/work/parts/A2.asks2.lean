/-! THE LAW'S FACTS, RISKS AND COSTS of a write, of both -/
section AS2
variable {d L : Nat} {xs : Nat → Int32} {s t u : Nat → Int → Int32} {O : Nat → Int64} {c : Bool × Nat × Nat} {b : Int} {m pl F : Int → Int}
theorem fcs_at (m pl : Int → Int) (p : Int) : fcs m pl p 0 = p ∧ fcs m pl p 1 = (if p < 2 then 3 else pl (16 * p) - 1) ∧ fcs m pl p 2 = q_rm (pg m p 2) 100 ∧ fcs m pl p 3 = (if p < 2 then 0 else pl (16 * p + 1)) ∧ fcs m pl p 4 = q_rm (hc m 0 + 1) 100 ∧ fcs m pl p 5 = OM m ∧ fcs m pl p 6 = q_rm (m 5) 100 := ⟨rfl, rfl, rfl, rfl, rfl, rfl, rfl⟩
theorem q_rm_rg {x : Int} (h0 : 0 ≤ x) (h1 : x < 2147483648) : 0 ≤ q_rm x 100 ∧ q_rm x 100 ≤ 99 := by
  have e : q_rm x 100 = Int.tmod x 100 := by
    unfold q_rm
    rw [q_sg_id (by omega) (by omega), q_sg_id (by omega) (by omega)]
  rw [e, Int.tmod_eq_emod_of_nonneg h0]
  omega
theorem fcs_Rg {p : Int} (I : Inv m b) (hb : b < 2147483647) (p0 : 0 ≤ p) (p1 : p < 48) (hp : p < 2 ∨ (1 ≤ pl (16 * p) ∧ pl (16 * p) ≤ 3 ∧ 0 ≤ pl (16 * p + 1) ∧ pl (16 * p + 1) ≤ 6)) : Rg (fcs m pl p) := fun k k0 k1 => by
  obtain ⟨f0, f1, f2, f3, f4, f5, f6⟩ := fcs_at m pl p
  have w := I.1.2.2.1 p p0 p1
  have h := I.1.2.2.2.1
  have t := I.2.2.1
  have o := om_rg m
  have r1 := q_rm_rg (x := pg m p 2) (by omega) (by omega)
  have r2 := q_rm_rg (x := hc m 0 + 1) (by omega) (by omega)
  have r3 := q_rm_rg (x := m 5) (by omega) (by omega)
  obtain e | e | e | e | e | e | e : k = 0 ∨ k = 1 ∨ k = 2 ∨ k = 3 ∨ k = 4 ∨ k = 5 ∨ k = 6 := by omega
  · rw [e, f0]; omega
  · rw [e, f1]; split <;> omega
  · rw [e, f2]; omega
  · rw [e, f3]; split <;> omega
  · rw [e, f4]; omega
  · rw [e, f5]; omega
  · rw [e, f6]; omega
theorem cc_gather {p : Int} (H : RB m s 7) (p0 : 0 ≤ p) (p1 : p < 48) (h : p < 2 ∨ OwnP pl p s) (hn : q_g s 241 11 = hc m 0 + 1) (hR : Rg (fcs m pl p)) : ∃ t, EV (d + 2) 94 0 [.ref 241, .ref 7, .int (q_I (p))] [] (q_h L xs s O c) = some (.inl none, q_h L xs (t) O c) ∧ (∀ k, 0 ≤ k → k < 7 → q_g t 260 k = fcs m pl p k) ∧ ∀ k z, k ≠ 260 → t k z = s k z := by
  obtain ⟨f0, f1, f2, f3, f4, f5, f6⟩ := fcs_at m pl p
  have hw := rb_wear H p0 p1
  have ht := rb_tick H
  have OwnU : ∀ u : Nat → Int → Int32, (∀ k z, k ≠ 260 → q_g u k z = q_g s k z) → p < 2 ∨ OwnP pl p u := fun u hu => by
    rcases h with h | h
    · exact Or.inl h
    · refine Or.inr ?_
      unfold OwnP at *
      rw [hu 254 p (by decide), hu 243 _ (by decide), hu 244 _ (by decide), hu 241 8 (by decide)]
      exact h
  have g : ∀ (u : Nat → Int → Int32) (z v : Int), (∀ k z, k ≠ 260 → q_g u k z = q_g s k z) → ∀ k z', k ≠ 260 → q_g (q_u u 260 z v) k z' = q_g s k z' := fun u z v hu k z' hk => by rw [q_gu_ne (by omega), hu k z' hk]
  have g0 : ∀ k z, k ≠ 260 → q_g s k z = q_g s k z := fun _ _ _ => rfl
  have g1 := g s 0 (fcs m pl p 0) g0
  have k1 := cc_kindOfWrite (d := d + 1) (L := L) (xs := xs) (O := O) (c := c) (s := q_u s 260 0 (fcs m pl p 0)) p0 p1 (OwnU _ g1)
  rw [← f1] at k1
  have g2 := g _ 1 (fcs m pl p 1) g1
  have w2 : q_g (q_u (q_u s 260 0 (fcs m pl p 0)) 260 1 (fcs m pl p 1)) 11 p = pg m p 2 := by rw [g2 11 p (by decide), hw]
  have g3 := g _ 2 (fcs m pl p 2) g2
  have k3 := cc_rowsOfWrite (d := d) (L := L) (xs := xs) (O := O) (c := c) (s := q_u (q_u (q_u s 260 0 (fcs m pl p 0)) 260 1 (fcs m pl p 1)) 260 2 (fcs m pl p 2)) p0 p1 (OwnU _ g3)
  rw [← f3] at k3
  have g4 := g _ 3 (fcs m pl p 3) g3
  have n4 : q_g (q_u (q_u (q_u (q_u s 260 0 (fcs m pl p 0)) 260 1 (fcs m pl p 1)) 260 2 (fcs m pl p 2)) 260 3 (fcs m pl p 3)) 241 11 = hc m 0 + 1 := by rw [g4 241 11 (by decide), hn]
  have g5 := g _ 4 (fcs m pl p 4) g4
  have H5 : RB m (q_u (q_u (q_u (q_u (q_u s 260 0 (fcs m pl p 0)) 260 1 (fcs m pl p 1)) 260 2 (fcs m pl p 2)) 260 3 (fcs m pl p 3)) 260 4 (fcs m pl p 4)) 7 := rb_sm H (fun k _ _ => funext fun z => g5 k z (by omega))
  have k5 := cc_openReadersO (d := d + 1) (L := L) (xs := xs) (O := O) (c := c) H5
  rw [← f5] at k5
  have g6 := g _ 5 (fcs m pl p 5) g5
  have t6 : q_g (q_u (q_u (q_u (q_u (q_u (q_u s 260 0 (fcs m pl p 0)) 260 1 (fcs m pl p 1)) 260 2 (fcs m pl p 2)) 260 3 (fcs m pl p 3)) 260 4 (fcs m pl p 4)) 260 5 (fcs m pl p 5)) 7 8 = m 5 := by rw [g6 7 8 (by decide), ht]
  refine ⟨q_u (q_u (q_u (q_u (q_u (q_u (q_u s 260 0 (fcs m pl p 0)) 260 1 (fcs m pl p 1)) 260 2 (fcs m pl p 2)) 260 3 (fcs m pl p 3)) 260 4 (fcs m pl p 4)) 260 5 (fcs m pl p 5)) 260 6 (fcs m pl p 6), ?_, fun k k0 k1 => ?_, fun k z hk => ?_⟩
  · have e0 : q_u s 260 0 p = q_u s 260 0 (fcs m pl p 0) := by rw [f0]
    simp (disch := first | omega | exact q_b_01 _) only [↓reduceIte, q_bk0, q_bk1, q_bk2, q_sg_b, q_b_0, q_b_n0, q_b_1, q_b_n1, q_b_T, q_b_F, q_sg_g, q_sg_sg, q_sg_xs, q_sg_id, q_gu_ne, q_gu_eq, q_g_fne, q_g_cpe, q_w_f, q_v_f, q_u_f, q_fn_f, q_cp_f, q_sg_pg, q_sg_hc, q_lt_t, q_lt_f, q_le_t, q_le_f, q_eq_t, q_eq_f, ne_eq, eq_self, Bool.false_eq_true, Bool.true_eq_false, not_true_eq_false, not_false_eq_true, true_and, and_true, false_and, and_false, true_or, or_true, false_or, or_false, if_true, if_false, Int.reduceAdd, Int.reduceMul, Int.reduceSub, Int.reduceNeg, cc_isPage, e0, k1, w2, ← f2, k3, n4, ← f4, k5, t6, ← f6, R_94_0, R_94_4, R_94_7, R_94_8, R_94_15, R_94_25, R_94_26, R_94_40, R_94_43, R_94_44, R_94_54, R_94_55, R_94_67, R_94_68, R_94_77, R_94_78, R_94_91, R_94_92, C_94_1, C_94_22, C_94_51, C_94_74]
  · have hr := hR k k0 k1
    have gs : ∀ x, 0 ≤ x → x < 7 → q_sg (fcs m pl p x) = fcs m pl p x := fun x x0 x1 => by
      have := hR x x0 x1
      exact q_sg_id (by omega) (by omega)
    obtain e | e | e | e | e | e | e : k = 0 ∨ k = 1 ∨ k = 2 ∨ k = 3 ∨ k = 4 ∨ k = 5 ∨ k = 6 := by omega
    all_goals
      subst e
      simp (disch := first | omega | exact q_b_01 _) only [q_gu_ne, q_gu_eq, gs]
  · rw [q_u_n (by omega), q_u_n (by omega), q_u_n (by omega), q_u_n (by omega), q_u_n (by omega), q_u_n (by omega), q_u_n (by omega)]
theorem LawP_sm {s t : Nat → Int → Int32} (h : LawP m (q_g s 49) (q_g s 50) (q_g s 51) (q_g s 52) (q_g s 53)) (e : ∀ k z, 49 ≤ k → k ≤ 53 → t k z = s k z) : LawP m (q_g t 49) (q_g t 50) (q_g t 51) (q_g t 52) (q_g t 53) := by
  have f : ∀ k, 49 ≤ k → k ≤ 53 → q_g t k = q_g s k := fun k k0 k1 => funext fun z => by
    show (t k z).toInt = _
    rw [e k z k0 k1]
    rfl
  rw [f 49 (by omega) (by omega), f 50 (by omega) (by omega), f 51 (by omega) (by omega), f 52 (by omega) (by omega), f 53 (by omega) (by omega)]
  exact h
theorem clp_c {z : Int} : (if 0 < (if z < 100 then z else 100) then (if z < 100 then z else 100) else 0) = clp z := by
  unfold clp
  split <;> split <;> (repeat' split) <;> omega
theorem clp_m {z : Int} : (if (if 100 < z then 100 else z) < 0 then 0 else (if 100 < z then 100 else z)) = clp z := by
  unfold clp
  split <;> split <;> (repeat' split) <;> omega
theorem cc_risksOf {k p : Int} (H : RB m s 7) (I : Inv m b) (hL : LawP m (q_g s 49) (q_g s 50) (q_g s 51) (q_g s 52) (q_g s 53)) (k0 : 0 ≤ k) (k1 : k < q_g s 241 10) (k2 : k ≤ 48) (hW : q_g s 259 k = p) (p0 : 0 ≤ p) (p1 : p < 48) (h : p < 2 ∨ OwnP pl p s) (hn : q_g s 241 11 = hc m 0 + 1) (hR : Rg (fcs m pl p)) : ∃ t, EV (d + 4) 92 0 [.ref 241, .ref 7, .ref 49, .int (q_I (k)), .null] [] (q_h L xs s O c) = some (.inl (some (.int (q_I (clp (m 3 + LTot m (fcs m pl p) 2 - LTot m (fcs m pl p) 3))))), q_h L xs (t) O c) ∧ ∀ k z, k ≠ 260 → k ≠ 54 → t k z = s k z := by
  have nr := q_g_rg s 241 10
  have e1 : EV (d + 3) 87 0 [.ref 241, .int (q_I (k))] [] (q_h L xs s O c) = some (.inl (some (.int (q_I (p)))), q_h L xs (s) O c) := by
    simp (disch := first | omega | exact q_b_01 _) only [↓reduceIte, q_bk0, q_bk1, q_bk2, q_sg_b, q_b_0, q_b_n0, q_b_1, q_b_n1, q_b_T, q_b_F, q_sg_g, q_sg_sg, q_sg_xs, q_sg_id, q_gu_ne, q_gu_eq, q_g_fne, q_g_cpe, q_w_f, q_v_f, q_u_f, q_fn_f, q_cp_f, q_sg_pg, q_sg_hc, q_lt_t, q_lt_f, q_le_t, q_le_f, q_eq_t, q_eq_f, ne_eq, eq_self, Bool.false_eq_true, Bool.true_eq_false, not_true_eq_false, not_false_eq_true, true_and, and_true, false_and, and_false, true_or, or_true, false_or, or_false, if_true, if_false, Int.reduceAdd, Int.reduceMul, Int.reduceSub, Int.reduceNeg, hW, R_87_0, R_87_4, R_87_12, R_87_18, R_87_22, R_87_28]
  obtain ⟨t1, a1, a2, a3⟩ := cc_gather (d := d + 1) (L := L) (xs := xs) (O := O) (c := c) H p0 p1 h hn hR
  have r6 : q_g t1 7 6 = m 3 := by
    show (t1 7 6).toInt = _
    rw [a3 7 6 (by decide)]
    exact rb_risk H
  obtain ⟨t2, b1, b2⟩ := cc_lTot (d := d) (L := L) (xs := xs) (O := O) (c := c) (w := 2) (LawP_sm hL (fun k z _ _ => a3 k z (by omega))) hR a2 (by omega) (by omega)
  obtain ⟨t3, c1, c2⟩ := cc_lTot (d := d) (L := L) (xs := xs) (O := O) (c := c) (s := t2) (w := 3) (LawP_sm hL (fun k z _ _ => by rw [b2 k z (by omega), a3 k z (by omega)])) hR (fun k k0 k1 => by
    show (t2 260 k).toInt = _
    rw [b2 260 k (by decide)]
    exact a2 k k0 k1) (by omega) (by omega)
  have l2 := LTot_rg (w := 2) hL hR
  have l3 := LTot_rg (w := 3) hL hR
  have i3 := I.2.2.1
  refine ⟨t3, ?_, fun k z h1 h2 => by rw [c2 k z h2, b2 k z h2, a3 k z h1]⟩
  generalize hx : LTot m (fcs m pl p) 2 = x at *
  generalize hy : LTot m (fcs m pl p) 3 = y at *
  simp (disch := first | omega | exact q_b_01 _) only [↓reduceIte, q_bk0, q_bk1, q_bk2, q_sg_b, q_b_0, q_b_n0, q_b_1, q_b_n1, q_b_T, q_b_F, q_sg_g, q_sg_sg, q_sg_xs, q_sg_id, q_gu_ne, q_gu_eq, q_g_fne, q_g_cpe, q_w_f, q_v_f, q_u_f, q_fn_f, q_cp_f, q_sg_pg, q_sg_hc, q_lt_t, q_lt_f, q_le_t, q_le_f, q_eq_t, q_eq_f, ne_eq, eq_self, Bool.false_eq_true, Bool.true_eq_false, not_true_eq_false, not_false_eq_true, true_and, and_true, false_and, and_false, true_or, or_true, false_or, or_false, if_true, if_false, Int.reduceAdd, Int.reduceMul, Int.reduceSub, Int.reduceNeg, e1, a1, r6, b1, c1, jj_min, jj_max, R_92_0, R_92_10, R_92_23, R_92_33, R_92_47, C_92_4, C_92_7, C_92_20, C_92_30, C_92_41, C_92_44]
  rw [clp_c]
theorem cc_costsOf {k p : Int} (H : RB m s 7) (hL : LawP m (q_g s 49) (q_g s 50) (q_g s 51) (q_g s 52) (q_g s 53)) (k0 : 0 ≤ k) (k1 : k < q_g s 241 10) (k2 : k ≤ 48) (hW : q_g s 259 k = p) (p0 : 0 ≤ p) (p1 : p < 48) (h : p < 2 ∨ OwnP pl p s) (hn : q_g s 241 11 = hc m 0 + 1) (hR : Rg (fcs m pl p)) : ∃ t, EV (d + 4) 93 0 [.ref 241, .ref 7, .ref 49, .int (q_I (k))] [] (q_h L xs s O c) = some (.inl (some (.int (q_I (1 + LTot m (fcs m pl p) 4)))), q_h L xs (t) O c) ∧ ∀ k z, k ≠ 260 → k ≠ 54 → t k z = s k z := by
  have nr := q_g_rg s 241 10
  have e1 : EV (d + 3) 87 0 [.ref 241, .int (q_I (k))] [] (q_h L xs s O c) = some (.inl (some (.int (q_I (p)))), q_h L xs (s) O c) := by
    simp (disch := first | omega | exact q_b_01 _) only [↓reduceIte, q_bk0, q_bk1, q_bk2, q_sg_b, q_b_0, q_b_n0, q_b_1, q_b_n1, q_b_T, q_b_F, q_sg_g, q_sg_sg, q_sg_xs, q_sg_id, q_gu_ne, q_gu_eq, q_g_fne, q_g_cpe, q_w_f, q_v_f, q_u_f, q_fn_f, q_cp_f, q_sg_pg, q_sg_hc, q_lt_t, q_lt_f, q_le_t, q_le_f, q_eq_t, q_eq_f, ne_eq, eq_self, Bool.false_eq_true, Bool.true_eq_false, not_true_eq_false, not_false_eq_true, true_and, and_true, false_and, and_false, true_or, or_true, false_or, or_false, if_true, if_false, Int.reduceAdd, Int.reduceMul, Int.reduceSub, Int.reduceNeg, hW, R_87_0, R_87_4, R_87_12, R_87_18, R_87_22, R_87_28]
  obtain ⟨t1, a1, a2, a3⟩ := cc_gather (d := d + 1) (L := L) (xs := xs) (O := O) (c := c) H p0 p1 h hn hR
  obtain ⟨t2, b1, b2⟩ := cc_lTot (d := d) (L := L) (xs := xs) (O := O) (c := c) (w := 4) (LawP_sm hL (fun k z _ _ => a3 k z (by omega))) hR a2 (by omega) (by omega)
  refine ⟨t2, ?_, fun k z h1 h2 => by rw [b2 k z h2, a3 k z h1]⟩
  simp (disch := first | omega | exact q_b_01 _) only [↓reduceIte, q_bk0, q_bk1, q_bk2, q_sg_b, q_b_0, q_b_n0, q_b_1, q_b_n1, q_b_T, q_b_F, q_sg_g, q_sg_sg, q_sg_xs, q_sg_id, q_gu_ne, q_gu_eq, q_g_fne, q_g_cpe, q_w_f, q_v_f, q_u_f, q_fn_f, q_cp_f, q_sg_pg, q_sg_hc, q_lt_t, q_lt_f, q_le_t, q_le_f, q_eq_t, q_eq_f, ne_eq, eq_self, Bool.false_eq_true, Bool.true_eq_false, not_true_eq_false, not_false_eq_true, true_and, and_true, false_and, and_false, true_or, or_true, false_or, or_false, if_true, if_false, Int.reduceAdd, Int.reduceMul, Int.reduceSub, Int.reduceNeg, e1, a1, b1, R_93_0, R_93_10, R_93_20, C_93_4, C_93_7, C_93_17]
end AS2
