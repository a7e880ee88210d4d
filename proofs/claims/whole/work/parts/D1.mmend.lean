/-! THE REFERENCE: what is above a changed leaf is mended -/
noncomputable def FE (s u : Nat → Int → Int32) : Prop := ∀ k z, ¬ (294 ≤ k ∧ k ≤ 297) → ¬ (k = 285 ∧ z = 25) → u k z = s k z
section MMD
variable {d L : Nat} {xs : Nat → Int32} {s s1 u : Nat → Int → Int32} {O : Nat → Int64} {c : Bool × Nat × Nat} {D0 : Ar} {N0 x y j i p n key : Int} {a : Int → Int} {cc : Int → Tr} {t t' : Tr} {g : Int → (Int → Int) → (Int → Int) → Tr}
theorem FE_refl : FE s s := fun _ _ _ _ => rfl
theorem FE_trans (h : FE s s1) (h' : FE s1 u) : FE s u := fun k z a b => (h' k z a b).trans (h k z a b)
theorem FE_g (h : FE s u) {k : Nat} {z : Int} (h1 : ¬ (294 ≤ k ∧ k ≤ 297)) (h2 : ¬ (k = 285 ∧ z = 25)) : q_g u k z = q_g s k z := by
  show (u k z).toInt = _
  rw [h k z h1 h2]
  rfl
theorem mm_stepM {D : Int} {x3 x4 : Value} (S : Sub D0 N0 (.br p n a cc) x) (j0 : 0 ≤ j) (j1 : j < n) (n4 : n ≤ 4) (C : Chd D0 N0 (cc j) (D0.B x j) (dM s) (q_g s 285 25) t' (D0.B x j)) (N48 : 48 ≤ q_g s 285 25) (hN : q_g s 285 25 ≤ 240) (hN5 : tsz t' = 5 → q_g s 285 25 < 240) (i0 : 0 ≤ i) (i1 : i < 15) (hy : q_g s 299 (i + 1) = D0.B x j) (hx : q_g s 299 i = x) (hj : q_g s 300 i = j) : ∃ u z3 z4, EV (d + 3) 267 4 [.ref 285, .int (q_I (D)), .int (q_I (i)), x3, x4] [] (q_h L xs s O c) = EV (d + 3) 267 4 [.ref 285, .int (q_I (D)), .int (q_I (i - 1)), z3, z4] [] (q_h L xs (u) O c) ∧ Chd D0 N0 (.br p n a cc) x (dM u) (q_g u 285 25) (mend p n a cc j t') x ∧ q_g u 285 25 = q_g s 285 25 + (if tsz t' = 5 then 1 else 0) ∧ FE s u := by
  obtain ⟨rx, xN, sb⟩ := Chd_sib S j0 j1 C
  have sx := S.2.2 x (Or.inl rfl)
  have C0 := C
  obtain ⟨⟨T1, T2, T3⟩, hNN, TW, TF⟩ := C
  have yr := T3 _ (Wi_self (dM s) t' (D0.B x j))
  have ysz := Rep_sz T1
  have nyx : D0.B x j ≠ x := fun e => by
    have := (S.2.1 j j0 j1).2.1
    exact this (by rw [e]; have := Wi_self D0 (cc j) (D0.B x j); rw [e] at this; exact this)
  generalize hyy : D0.B x j = y at *
  have hR : q_g s 295 y = tsz t' := ysz.1
  have xR : q_g s 295 x = n := rx.2.1.trans (Sub_R2 S).2.1
  unfold mend
  by_cases c0 : tsz t' = 0
  · rw [if_pos c0]
    rw [c0] at hR
    obtain ⟨z, z1, z2, z3, z4, z5⟩ := mm_remove (d := d + 1) (L := L) (xs := xs) (O := O) (c := c) (s := s) (y := x) (p := j) xR (by omega) (by omega) j0 j1 (by omega)
    obtain ⟨dd, de⟩ := dQ_del (q := 294) (fr := fun x => if x < 48 then 0 else 1) (y := x) (p := j) (r := n) (s := s) (t := z) j0 j1 (by omega) z2 z3 z4 (z5 294 (by decide) (by decide) (by decide))
    have e9 : q_g z 285 25 = q_g s 285 25 := by
      show (z 285 25).toInt = _
      rw [z5 285 (by decide) (by decide) (by decide)]
      rfl
    refine ⟨z, .int (q_I y), x4, ?_, ?_, by rw [e9, if_neg (by omega)]; omega, fun k w h1 h2 => by rw [z5 k (by omega) (by omega) (by omega)]⟩
    · rw [R_267_4]
      simp (disch := first | omega | exact q_b_01 _) only [↓reduceIte, q_bk0, q_bk1, q_bk2, q_sg_b, q_b_0, q_b_n0, q_b_1, q_b_n1, q_b_T, q_b_F, q_sg_g, q_sg_sg, q_sg_xs, q_sg_id, q_gu_ne, q_gu_eq, q_g_fne, q_g_cpe, q_w_f, q_v_f, q_u_f, q_fn_f, q_cp_f, q_sg_pg, q_sg_hc, q_lt_t, q_lt_f, q_le_t, q_le_f, q_eq_t, q_eq_f, ne_eq, eq_self, Bool.false_eq_true, Bool.true_eq_false, not_true_eq_false, not_false_eq_true, true_and, and_true, false_and, and_false, true_or, or_true, false_or, or_false, if_true, if_false, Int.reduceAdd, Int.reduceMul, Int.reduceSub, Int.reduceNeg, hy, hx, hj, hR, z1, R_267_0, R_267_8, R_267_16, R_267_23, R_267_26, R_267_33, R_267_42, R_267_45, R_267_57, R_267_64, R_267_71, R_267_72, R_267_78, R_267_82, R_267_85, R_267_90, R_267_99, R_267_105, R_267_114, R_267_119, R_267_122, R_267_125, R_267_129, C_267_39, C_267_68, C_267_87, C_267_111, C_267_116, C_267_126]
      rw [show i + -1 = i - 1 by omega]
    · rw [e9]
      exact stp_0 (D1 := dM s) S j0 j1 (by rw [hyy]; exact C0) de ⟨dd.1, dd.2.1, rfl, dd.2.2⟩
  · rw [if_neg c0]
    have y0 : q_g s 296 (6 * y + 0) = tlst t' := Rep_lst T1 (by omega)
    have tr := q_g_rg s 296 (6 * y + 0)
    rw [y0] at tr
    have dA := dQ_A (s := s) (q := 294) (fr := fun x => if x < 48 then 0 else 1) (y := x) (p := j) (v := tlst t') j0 (by omega) tr.1 tr.2
    have gR : q_g (q_u s 296 (6 * x + j) (tlst t')) 295 y = tsz t' := by rw [q_gu_ne (by omega), hR]
    by_cases c5 : tsz t' = 5
    · rw [if_pos c5, if_pos c5]
      have hN5' := hN5 c5
      generalize hNs : q_g s 285 25 = N at *
      obtain ⟨t2, b1, b3, b4, b5, b6, b7, b8⟩ := mm_splits (d := d + 1) (L := L) (xs := xs) (O := O) (c := c) (s := q_u s 296 (6 * x + j) (tlst t')) (n := N) (y := y) (by rw [q_gu_ne (by omega), hNs]) N48 hN5' (by omega) yr.2
      have b2 : q_g t2 285 25 = N + 1 := by
        show (t2 285 25).toInt = _
        rw [b7, setf_e rfl]
        exact q_sg_id (by omega) (by omega)
      have g2 : ∀ k w, ¬ (294 ≤ k ∧ k ≤ 297) → ¬ (k = 285 ∧ w = 25) → t2 k w = s k w := fun k w h1 h2 => by
        by_cases e : k = 285
        · subst e
          rw [b7, setf_n (by omega), q_u_n (by omega)]
        · rw [b8 k e (by omega) (by omega) (by omega) (by omega), q_u_n (by omega)]
      have gg : ∀ k w, ¬ (294 ≤ k ∧ k ≤ 297) → ¬ (k = 285 ∧ w = 25) → q_g t2 k w = q_g s k w := fun k w h1 h2 => by
        show (t2 k w).toInt = _
        rw [g2 k w h1 h2]
        rfl
      have xR2 : q_g t2 295 x = n := by
        show (t2 295 x).toInt = _
        rw [b4, setf_n (by omega), setf_n (by omega), q_u_k (by decide)]
        exact xR
      have N0' : q_g t2 296 (6 * N + 0) = tlst (lst2 t') := by
        show (t2 296 (6 * N + 0)).toInt = _
        rw [b5, if_pos (by omega), q_u_n (by omega)]
        exact Rep_A3 T1 c5
      obtain ⟨t3, e1, e2, e3, e4, e5⟩ := mm_insert (d := d + 1) (L := L) (xs := xs) (O := O) (c := c) (s := t2) (y := x) (p := j + 1) (v := tlst (lst2 t')) (w := N) xR2 (by omega) (by omega) (by omega) (by omega) (by omega)
      have t39 : q_g t3 285 25 = N + 1 := by
        show (t3 285 25).toInt = _
        rw [e5 285 (by decide) (by decide) (by decide)]
        exact b2
      have trN : -2147483648 ≤ tlst (lst2 t') ∧ tlst (lst2 t') < 2147483648 := by
        rw [← N0']
        exact q_g_rg _ _ _
      obtain ⟨⟨i1', i2', i3⟩, i4⟩ := dQ_ins (q := 294) (fr := fun x => if x < 48 then 0 else 1) (fr' := fun x => if x < 48 then 0 else 1) (y := x) (p := j + 1) (r := n) (v := tlst (lst2 t')) (w := N) (s := t2) (t := t3) (by omega) (by omega) (by omega) e2 e3 e4 (e5 294 (by decide) (by decide) (by decide)) (fun z _ => rfl)
      have r2 : ∀ z, z ≠ x → z ≠ y → z < N → Row (dM s) (dM t2) z := fun z h1 h2 h3 => by
        refine ⟨?_, ?_, rfl, fun k k0 k1 => ⟨?_, ?_⟩⟩
        · show (t2 294 z).toInt = _
          rw [b3, setf_n (by omega), q_u_k (by decide)]
          rfl
        · show (t2 295 z).toInt = _
          rw [b4, setf_n h2, setf_n (by omega), q_u_k (by decide)]
          rfl
        · show (t2 296 (6 * z + k)).toInt = _
          rw [b5, if_neg (by omega), if_neg (by omega), q_u_n (by omega)]
          rfl
        · show (t2 297 (6 * z + k)).toInt = _
          rw [b6, if_neg (by omega), if_neg (by omega), q_u_n (by omega)]
          rfl
      refine ⟨t3, .int (q_I y), .int (q_I N), ?_, ?_, by rw [t39], fun k w h1 h2 => by rw [e5 k (by omega) (by omega) (by omega), g2 k w h1 h2]⟩
      · have w1 : q_g t2 299 i = x := by rw [gg 299 _ (by omega) (by omega), hx]
        have w2 : q_g t2 300 i = j := by rw [gg 300 _ (by omega) (by omega), hj]
        rw [c5] at hR gR
        rw [R_267_4]
        simp (disch := first | omega | exact q_b_01 _) only [↓reduceIte, q_bk0, q_bk1, q_bk2, q_sg_b, q_b_0, q_b_n0, q_b_1, q_b_n1, q_b_T, q_b_F, q_sg_g, q_sg_sg, q_sg_xs, q_sg_id, q_gu_ne, q_gu_eq, q_g_fne, q_g_cpe, q_w_f, q_v_f, q_u_f, q_fn_f, q_cp_f, q_sg_pg, q_sg_hc, q_lt_t, q_lt_f, q_le_t, q_le_f, q_eq_t, q_eq_f, ne_eq, eq_self, Bool.false_eq_true, Bool.true_eq_false, not_true_eq_false, not_false_eq_true, true_and, and_true, false_and, and_false, true_or, or_true, false_or, or_false, if_true, if_false, Int.reduceAdd, Int.reduceMul, Int.reduceSub, Int.reduceNeg, hy, hx, hj, hR, y0, gR, b1, w1, w2, N0', e1, R_267_0, R_267_8, R_267_16, R_267_23, R_267_26, R_267_33, R_267_42, R_267_45, R_267_57, R_267_64, R_267_71, R_267_72, R_267_78, R_267_82, R_267_85, R_267_90, R_267_99, R_267_105, R_267_114, R_267_119, R_267_122, R_267_125, R_267_129, C_267_39, C_267_68, C_267_87, C_267_111, C_267_116, C_267_126, mm_a]
        rw [show i + -1 = i - 1 by omega]
      · rw [t39]
        refine stp_5 (D1 := dM s) (N1 := N) S j0 j1 n4 (by rw [hyy]; exact C0) c5 (fun z h1 h2 h3 => Row_trans (r2 z h1 (by rw [← hyy]; exact h2) h3) (i4 z h1)) ?_ ?_ ?_
        · rw [hyy]
          have i4y := i4 y nyx
          refine ⟨?_, ?_, rfl, fun k k0 k1 => ⟨?_, ?_⟩⟩
          · refine i4y.1.trans ?_
            show (t2 294 y).toInt = _
            rw [b3, setf_n (by omega), q_u_k (by decide)]
            rfl
          · refine i4y.2.1.trans ?_
            show (t2 295 y).toInt = _
            rw [b4, setf_e rfl]
            rfl
          · refine (i4y.2.2.2 k k0 (by omega)).1.trans ?_
            show (t2 296 (6 * y + k)).toInt = _
            rw [b5, if_neg (by omega), if_neg (by omega), q_u_n (by omega)]
            rfl
          · refine (i4y.2.2.2 k k0 (by omega)).2.trans ?_
            show (t2 297 (6 * y + k)).toInt = _
            rw [b6, if_neg (by omega), if_neg (by omega), q_u_n (by omega)]
            rfl
        · rw [hyy]
          have i4N := i4 N (by omega)
          refine ⟨?_, ?_, ?_, fun k k0 k1 => ⟨?_, ?_⟩⟩
          · refine i4N.1.trans ?_
            show (t2 294 N).toInt = _
            rw [b3, setf_e rfl, q_u_k (by decide)]
            rfl
          · refine i4N.2.1.trans ?_
            show (t2 295 N).toInt = _
            rw [b4, setf_n (by omega), setf_e rfl]
            rfl
          · show (if N < 48 then (0 : Int) else 1) = 1
            rw [if_neg (by omega)]
          · refine (i4N.2.2.2 k k0 (by omega)).1.trans ?_
            show (t2 296 (6 * N + k)).toInt = q_g s 296 (6 * y + (k + 3))
            rw [b5]
            by_cases c1 : k = 0
            · subst c1
              rw [if_pos (by omega), q_u_n (by omega)]
              rfl
            · have e : k = 1 := by omega
              subst e
              rw [if_neg (by omega), if_pos (by omega), q_u_n (by omega)]
              rfl
          · refine (i4N.2.2.2 k k0 (by omega)).2.trans ?_
            show (t2 297 (6 * N + k)).toInt = q_g s 297 (6 * y + (k + 3))
            rw [b6]
            by_cases c1 : k = 0
            · subst c1
              rw [if_pos (by omega), q_u_n (by omega)]
              rfl
            · have e : k = 1 := by omega
              subst e
              rw [if_neg (by omega), if_pos (by omega), q_u_n (by omega)]
              rfl
        · skip
          refine ⟨?_, i2', rfl, fun k k0 k1 => ?_⟩
          · refine i1'.trans ?_
            show (t2 294 x).toInt = _
            rw [b3, setf_n (by omega), q_u_k (by decide)]
            rfl
          · obtain ⟨q1, q2⟩ := i3 k k0 (by omega)
            refine ⟨q1.trans ?_, q2.trans ?_⟩
            · rw [q_sg_id trN.1 trN.2]
              have eA : ∀ w, 0 ≤ w → w < 6 → (dM t2).A x w = up ((dM s).A x) j (tlst t') w := fun w w0 w1 => by
                show (t2 296 (6 * x + w)).toInt = _
                rw [b5, if_neg (by omega), if_neg (by omega)]
                by_cases e : w = j
                · subst e
                  rw [up_eq rfl]
                  show q_g (q_u s 296 (6 * x + w) (tlst t')) 296 (6 * x + w) = _
                  rw [q_gu_eq rfl, q_sg_id tr.1 tr.2]
                · rw [up_ne e, q_u_n (by omega)]
                  rfl
              by_cases e1 : k < j + 1
              · rw [inz_lt e1, inz_lt e1]
                exact eA k k0 (by omega)
              · by_cases e2 : k = j + 1
                · rw [inz_eq e2, inz_eq e2]
                · rw [inz_gt (by omega), inz_gt (by omega)]
                  exact eA (k - 1) (by omega) (by omega)
            · rw [q_sg_id (by omega) (by omega)]
              have eB : ∀ w, 0 ≤ w → w < 6 → (dM t2).B x w = (dM s).B x w := fun w w0 w1 => by
                show (t2 297 (6 * x + w)).toInt = _
                rw [b6, if_neg (by omega), if_neg (by omega), q_u_n (by omega)]
                rfl
              by_cases e1 : k < j + 1
              · rw [inz_lt e1, inz_lt e1]
                exact eB k k0 (by omega)
              · by_cases e2 : k = j + 1
                · rw [inz_eq e2, inz_eq e2]
                · rw [inz_gt (by omega), inz_gt (by omega)]
                  exact eB (k - 1) (by omega) (by omega)
    · rw [if_neg c5, if_neg c5]
      have e9 : q_g (q_u s 296 (6 * x + j) (tlst t')) 285 25 = q_g s 285 25 := q_gu_ne (by omega)
      refine ⟨q_u s 296 (6 * x + j) (tlst t'), .int (q_I y), x4, ?_, ?_, by rw [e9]; omega, fun k w h1 h2 => q_u_n (by omega)⟩
      · rw [R_267_4]
        simp (disch := first | omega | exact q_b_01 _) only [↓reduceIte, q_bk0, q_bk1, q_bk2, q_sg_b, q_b_0, q_b_n0, q_b_1, q_b_n1, q_b_T, q_b_F, q_sg_g, q_sg_sg, q_sg_xs, q_sg_id, q_gu_ne, q_gu_eq, q_g_fne, q_g_cpe, q_w_f, q_v_f, q_u_f, q_fn_f, q_cp_f, q_sg_pg, q_sg_hc, q_lt_t, q_lt_f, q_le_t, q_le_f, q_eq_t, q_eq_f, ne_eq, eq_self, Bool.false_eq_true, Bool.true_eq_false, not_true_eq_false, not_false_eq_true, true_and, and_true, false_and, and_false, true_or, or_true, false_or, or_false, if_true, if_false, Int.reduceAdd, Int.reduceMul, Int.reduceSub, Int.reduceNeg, hy, hx, hj, hR, c0, y0, gR, R_267_0, R_267_8, R_267_16, R_267_23, R_267_26, R_267_33, R_267_42, R_267_45, R_267_57, R_267_64, R_267_71, R_267_72, R_267_78, R_267_82, R_267_85, R_267_90, R_267_99, R_267_105, R_267_114, R_267_119, R_267_122, R_267_125, R_267_129, C_267_39, C_267_68, C_267_87, C_267_111, C_267_116, C_267_126, mm_a]
        rw [show i + -1 = i - 1 by omega]
      · rw [e9]
        exact stp_m (D1 := dM s) S j0 j1 (by rw [hyy]; exact C0) dA.2 dA.1
end MMD
