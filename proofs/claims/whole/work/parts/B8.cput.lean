/-! THE CLASS: what a put makes of the draft -/
/-- of the class's memory all but the nodes is as it was -/
noncomputable def FD (s u : Nat → Int → Int32) : Prop := (∀ k z, ¬ (243 ≤ k ∧ k ≤ 247) → ¬ (k = 242 ∧ z = 9) → u k z = s k z) ∧ ∀ z, z < 48 → u 247 z = s 247 z
section CPT
variable {d L : Nat} {xs : Nat → Int32} {s s0 s1 u : Nat → Int → Int32} {O : Nat → Int64} {c : Bool × Nat × Nat} {D0 : Ar} {N0 x y j l p n key : Int} {a : Int → Int} {cc : Int → Tr} {t t' : Tr}
theorem FD_refl : FD s s := ⟨fun _ _ _ _ => rfl, fun _ _ => rfl⟩
theorem FD_trans (h : FD s s1) (h' : FD s1 u) : FD s u := ⟨fun k z a b => (h'.1 k z a b).trans (h.1 k z a b), fun z hz => (h'.2 z hz).trans (h.2 z hz)⟩
theorem FD_g (h : FD s u) {k : Nat} {z : Int} (h1 : ¬ (243 ≤ k ∧ k ≤ 247)) (h2 : ¬ (k = 242 ∧ z = 9)) : q_g u k z = q_g s k z := by
  show (u k z).toInt = _
  rw [h.1 k z h1 h2]
  rfl
theorem Rep_A0 {D : Ar} (h : Rep D t x) (hn : 1 ≤ tsz t) : D.A x 0 = tlst t := Rep_lst h hn
theorem Rep_A3 {D : Ar} (h : Rep D t x) (hn : tsz t = 5) : D.A x 3 = tlst (lst2 t) := by
  cases t using Tr_cs with
  | lf p n a b =>
    try dsimp only [Rep_e1, Rep_e2, lst2_e1, lst2_e2] at *
    have e : n = 5 := hn
    exact (h.2.2.2.2.2 3 (by omega) (by omega)).1
  | br p n a c =>
    try dsimp only [Rep_e1, Rep_e2, lst2_e1, lst2_e2] at *
    have e : n = 5 := hn
    exact (h.2.2.2.2.2 3 (by omega) (by omega)).1
theorem cc_stepP (S : Sub D0 N0 (.br p n a cc) x) (j0 : 0 ≤ j) (j1 : j < n) (n4 : n ≤ 4) (C : Chd D0 N0 (cc j) (D0.B x j) (dC s) (q_g s 242 9) t' (D0.B x j)) (hz : 1 ≤ tsz t') (N48 : 48 ≤ q_g s 242 9) (hN : q_g s 242 9 ≤ 176) (hN5 : tsz t' = 5 → q_g s 242 9 < 176) (l0 : 1 ≤ l) (l1 : l < 40) (hy : q_g s 249 l = D0.B x j) (hx : q_g s 249 (l - 1) = x) (hj : q_g s 250 (l - 1) = j) : ∃ u, EV (d + 3) 57 0 [.ref 242, .int (q_I (l)), .null, .null, .null] [] (q_h L xs s O c) = some (.inl none, q_h L xs (u) O c) ∧ Chd D0 N0 (.br p n a cc) x (dC u) (q_g u 242 9) (mend p n a cc j t') x ∧ q_g u 242 9 = q_g s 242 9 + (if tsz t' = 5 then 1 else 0) ∧ FD s u := by
  obtain ⟨rx, xN, sb⟩ := Chd_sib S j0 j1 C
  have sx := S.2.2 x (Or.inl rfl)
  have C0 := C
  obtain ⟨⟨T1, T2, T3⟩, hNN, TW, TF⟩ := C
  have yr := T3 _ (Wi_self (dC s) t' (D0.B x j))
  have ysz := Rep_sz T1
  have nyx : D0.B x j ≠ x := fun e => by
    have := (S.2.1 j j0 j1).2.1
    exact this (by rw [e]; have := Wi_self D0 (cc j) (D0.B x j); rw [e] at this; exact this)
  generalize hyy : D0.B x j = y at *
  have y0 : q_g s 245 (6 * y) = tlst t' := by
    have := Rep_A0 T1 hz
    show q_g s 245 (6 * y) = _
    rw [show 6 * y = 6 * y + 0 by omega]
    exact this
  have tr := q_g_rg s 245 (6 * y)
  rw [y0] at tr
  have hR : q_g s 244 y = tsz t' := ysz.1
  unfold mend
  rw [if_neg (by omega)]
  have dA := dQ_A (s := s) (q := 243) (fr := q_g s 247) (y := x) (p := j) (v := tlst t') j0 (by omega) tr.1 tr.2
  by_cases c5 : tsz t' = 5
  · rw [if_pos c5, if_pos c5]
    have hN5' := hN5 c5
    generalize hNs : q_g s 242 9 = N at *
    obtain ⟨t2, b1, b2, b3, b4, b5, b6, b7, b8⟩ := cc_sp2 (d := d + 1) (L := L) (xs := xs) (O := O) (c := c) (s := q_u s 245 (6 * x + j) (tlst t')) (N := N) (y := y) (l' := l) (v' := .null) (by rw [q_gu_ne (by omega), hNs]) N48 hN5' yr.1 yr.2 (by rw [q_gu_ne (by omega), hR, c5])
    have g249 : ∀ k z, ¬ (243 ≤ k ∧ k ≤ 247) → ¬ (k = 242 ∧ z = 9) → q_g t2 k z = q_g s k z := fun k z h1 h2 => by
      show (t2 k z).toInt = _
      rw [b8 k z h1 h2, q_u_n (by omega)]
      rfl
    have xR : q_g t2 244 x = n := by
      show (t2 244 x).toInt = _
      rw [b4, setf_n (by omega), setf_n (by omega), q_u_k (by decide)]
      exact rx.2.1.trans S.1.2.1
    have N0' : q_g t2 245 (6 * N) = tlst (lst2 t') := by
      show (t2 245 (6 * N)).toInt = _
      rw [b5, if_pos rfl, q_u_n (by omega)]
      exact Rep_A3 T1 c5
    obtain ⟨t3, e1, e2, e3, e4, e5⟩ := cc_insertAt (d := d + 1) (L := L) (xs := xs) (O := O) (c := c) (s := t2) (x := x) (k := j + 1) (v := tlst (lst2 t')) (w := N) b2 xR sx.1 (by omega) (by omega) (by omega) (by omega) (by omega)
    have t39 : q_g t3 242 9 = N + 1 := by
      show (t3 242 9).toInt = _
      rw [e5 242 (by decide) (by decide) (by decide)]
      exact b2
    have trN : -2147483648 ≤ tlst (lst2 t') ∧ tlst (lst2 t') < 2147483648 := by
      rw [← N0']
      exact q_g_rg _ _ _
    obtain ⟨⟨i1, i2, i3⟩, i4⟩ := dQ_ins (q := 243) (fr := q_g t2 247) (fr' := q_g t3 247) (y := x) (p := j + 1) (r := n) (v := tlst (lst2 t')) (w := N) (s := t2) (t := t3) (by omega) (by omega) (by omega) e2 e3 e4 (e5 243 (by decide) (by decide) (by decide)) (fun z _ => by
      show (t3 247 z).toInt = _
      rw [e5 247 (by decide) (by decide) (by decide)]
      rfl)
    -- rows of t2 against those of s
    have r2 : ∀ z, z ≠ x → z ≠ y → z < N → Row (dC s) (dC t2) z := fun z h1 h2 h3 => by
      refine ⟨?_, ?_, ?_, fun k k0 k1 => ⟨?_, ?_⟩⟩
      · show (t2 243 z).toInt = _
        rw [b3, setf_n (by omega), q_u_k (by decide)]
        rfl
      · show (t2 244 z).toInt = _
        rw [b4, setf_n h2, setf_n (by omega), q_u_k (by decide)]
        rfl
      · show (t2 247 z).toInt = _
        rw [b7, setf_n (by omega), q_u_k (by decide)]
        rfl
      · show (t2 245 (6 * z + k)).toInt = _
        rw [b5, if_neg (by omega), if_neg (by omega), q_u_n (by omega)]
        rfl
      · show (t2 246 (6 * z + k)).toInt = _
        rw [b6, if_neg (by omega), if_neg (by omega), q_u_n (by omega)]
        rfl
    have fr3 : ∀ z, q_g t3 247 z = q_g t2 247 z := fun z => by
      show (t3 247 z).toInt = _
      rw [e5 247 (by decide) (by decide) (by decide)]
      rfl
    refine ⟨t3, ?_, ?_, by rw [t39], fun k z h1 h2 => ?_, fun z hz => ?_⟩
    · have ey : q_g s 245 (y * 6) = tlst t' := by rw [show y * 6 = 6 * y by omega, y0]
      have ex : q_u s 245 (x * 6 + j) (tlst t') = q_u s 245 (6 * x + j) (tlst t') := by rw [show x * 6 + j = 6 * x + j by omega]
      have eg4 : q_g (q_u s 245 (6 * x + j) (tlst t')) 244 y = 5 := by rw [q_gu_ne (by omega), hR, c5]
      have eg9 : q_g (q_u s 245 (6 * x + j) (tlst t')) 242 9 = N := by rw [q_gu_ne (by omega), hNs]
      have mk := cc_makeNode (d := d + 2) (L := L) (xs := xs) (O := O) (c := c) (s := q_u s 245 (6 * x + j) (tlst t')) (kind := q_g s 243 y) eg9 N48 hN5'
      have ek : q_g (q_u s 245 (6 * x + j) (tlst t')) 243 y = q_g s 243 y := q_gu_ne (by omega)
      rw [ek] at b1
      have w1 : q_g t2 249 (l - 1) = x := by rw [g249 249 _ (by omega) (by omega), hx]
      have w2 : q_g t2 250 (l - 1) = j := by rw [g249 250 _ (by omega) (by omega), hj]
      have w3 : q_g t2 245 (N * 6) = tlst (lst2 t') := by rw [show N * 6 = 6 * N by omega, N0']
      simp (disch := first | omega | exact q_b_01 _) only [↓reduceIte, q_bk0, q_bk1, q_bk2, q_sg_b, q_b_0, q_b_n0, q_b_1, q_b_n1, q_b_T, q_b_F, q_sg_g, q_sg_sg, q_sg_xs, q_sg_id, q_gu_ne, q_gu_eq, q_g_fne, q_g_cpe, q_w_f, q_v_f, q_u_f, q_fn_f, q_cp_f, q_sg_pg, q_sg_hc, q_lt_t, q_lt_f, q_le_t, q_le_f, q_eq_t, q_eq_f, ne_eq, eq_self, Bool.false_eq_true, Bool.true_eq_false, not_true_eq_false, not_false_eq_true, true_and, and_true, false_and, and_false, true_or, or_true, false_or, or_false, if_true, if_false, Int.reduceAdd, Int.reduceMul, Int.reduceSub, Int.reduceNeg, hy, hx, hj, ey, ex, eg4, mk, R_57_0, R_57_6, R_57_11, R_57_23, R_57_34, R_57_44, R_57_45, R_57_51, R_57_55, R_57_56, R_57_66, R_57_72, R_57_84, R_57_87, R_57_94, R_57_112, R_57_127, R_57_133, R_57_144, R_57_153, R_57_161, R_57_172, R_57_176, R_57_177, R_57_182, R_57_190, R_57_203, R_57_207, R_57_220, R_57_224, R_57_230, C_57_63, C_57_124, C_57_173, C_57_179, C_57_204, C_57_221]
      rw [b1, R_57_140]
      simp (disch := first | omega | exact q_b_01 _) only [↓reduceIte, q_bk0, q_bk1, q_bk2, q_sg_b, q_b_0, q_b_n0, q_b_1, q_b_n1, q_b_T, q_b_F, q_sg_g, q_sg_sg, q_sg_xs, q_sg_id, q_gu_ne, q_gu_eq, q_g_fne, q_g_cpe, q_w_f, q_v_f, q_u_f, q_fn_f, q_cp_f, q_sg_pg, q_sg_hc, q_lt_t, q_lt_f, q_le_t, q_le_f, q_eq_t, q_eq_f, ne_eq, eq_self, Bool.false_eq_true, Bool.true_eq_false, not_true_eq_false, not_false_eq_true, true_and, and_true, false_and, and_false, true_or, or_true, false_or, or_false, if_true, if_false, Int.reduceAdd, Int.reduceMul, Int.reduceSub, Int.reduceNeg, w1, w2, w3, e1, R_57_0, R_57_6, R_57_11, R_57_23, R_57_34, R_57_44, R_57_45, R_57_51, R_57_55, R_57_56, R_57_66, R_57_72, R_57_84, R_57_87, R_57_94, R_57_112, R_57_127, R_57_133, R_57_144, R_57_153, R_57_161, R_57_172, R_57_176, R_57_177, R_57_182, R_57_190, R_57_203, R_57_207, R_57_220, R_57_224, R_57_230, C_57_63, C_57_124, C_57_173, C_57_179, C_57_204, C_57_221]
    · rw [t39]
      refine stp_5 (D1 := dC s) (N1 := N) S j0 j1 n4 (by rw [hyy]; exact C0) c5 (fun z h1 h2 h3 => Row_trans (r2 z h1 (by rw [← hyy]; exact h2) h3) (i4 z h1)) ?_ ?_ ?_
      · rw [hyy]
        have i4y := i4 y nyx
        refine ⟨?_, ?_, ?_, fun k k0 k1 => ⟨?_, ?_⟩⟩
        · refine i4y.1.trans ?_
          show (t2 243 y).toInt = _
          rw [b3, setf_n (by omega), q_u_k (by decide)]
          rfl
        · refine i4y.2.1.trans ?_
          show (t2 244 y).toInt = _
          rw [b4, setf_e rfl]
          rfl
        · refine i4y.2.2.1.trans ?_
          show (t2 247 y).toInt = _
          rw [b7, setf_n (by omega), q_u_k (by decide)]
          rfl
        · refine (i4y.2.2.2 k k0 (by omega)).1.trans ?_
          show (t2 245 (6 * y + k)).toInt = _
          rw [b5, if_neg (by omega), if_neg (by omega), q_u_n (by omega)]
          rfl
        · refine (i4y.2.2.2 k k0 (by omega)).2.trans ?_
          show (t2 246 (6 * y + k)).toInt = _
          rw [b6, if_neg (by omega), if_neg (by omega), q_u_n (by omega)]
          rfl
      · rw [hyy]
        have i4N := i4 N (by omega)
        refine ⟨?_, ?_, ?_, fun k k0 k1 => ⟨?_, ?_⟩⟩
        · refine i4N.1.trans ?_
          show (t2 243 N).toInt = _
          rw [b3, setf_e rfl, q_u_k (by decide)]
          rfl
        · refine i4N.2.1.trans ?_
          show (t2 244 N).toInt = _
          rw [b4, setf_n (by omega), setf_e rfl]
          rfl
        · refine i4N.2.2.1.trans ?_
          show (t2 247 N).toInt = _
          rw [b7, setf_e rfl]
          rfl
        · refine (i4N.2.2.2 k k0 (by omega)).1.trans ?_
          show (t2 245 (6 * N + k)).toInt = q_g s 245 (6 * y + (k + 3))
          rw [b5]
          by_cases c1 : k = 0
          · subst c1
            rw [if_pos (by omega), q_u_n (by omega)]
            rfl
          · have e : k = 1 := by omega
            subst e
            rw [if_neg (by omega), if_pos (by omega), q_u_n (by omega)]
            rfl
        · refine (i4N.2.2.2 k k0 (by omega)).2.trans ?_
          show (t2 246 (6 * N + k)).toInt = q_g s 246 (6 * y + (k + 3))
          rw [b6]
          by_cases c1 : k = 0
          · subst c1
            rw [if_pos (by omega), q_u_n (by omega)]
            rfl
          · have e : k = 1 := by omega
            subst e
            rw [if_neg (by omega), if_pos (by omega), q_u_n (by omega)]
            rfl
      · skip
        refine ⟨?_, i2, ?_, fun k k0 k1 => ?_⟩
        · refine i1.trans ?_
          show (t2 243 x).toInt = _
          rw [b3, setf_n (by omega), q_u_k (by decide)]
          rfl
        · show q_g t3 247 x = _
          rw [fr3]
          show (t2 247 x).toInt = _
          rw [b7, setf_n (by omega), q_u_k (by decide)]
          rfl
        · obtain ⟨q1, q2⟩ := i3 k k0 (by omega)
          refine ⟨q1.trans ?_, q2.trans ?_⟩
          · rw [q_sg_id trN.1 trN.2]
            have eA : ∀ i, 0 ≤ i → i < 6 → (dQ 243 (q_g t2 247) t2).A x i = up ((dC s).A x) j (tlst t') i := fun i i0 i1 => by
              show (t2 245 (6 * x + i)).toInt = _
              rw [b5, if_neg (by omega), if_neg (by omega)]
              by_cases e : i = j
              · subst e
                rw [up_eq rfl]
                show q_g (q_u s 245 (6 * x + i) (tlst t')) 245 (6 * x + i) = _
                rw [q_gu_eq rfl, q_sg_id tr.1 tr.2]
              · rw [up_ne e, q_u_n (by omega)]
                rfl
            by_cases e1 : k < j + 1
            · rw [inz_lt e1, inz_lt e1, eA k k0 (by omega)]
            · by_cases e2 : k = j + 1
              · rw [inz_eq e2, inz_eq e2]
              · rw [inz_gt (by omega), inz_gt (by omega), eA (k - 1) (by omega) (by omega)]
          · rw [q_sg_id (by omega) (by omega)]
            have eB : ∀ i, 0 ≤ i → i < 6 → (dQ 243 (q_g t2 247) t2).B x i = (dC s).B x i := fun i i0 i1 => by
              show (t2 246 (6 * x + i)).toInt = _
              rw [b6, if_neg (by omega), if_neg (by omega), q_u_n (by omega)]
              rfl
            by_cases e1 : k < j + 1
            · rw [inz_lt e1, inz_lt e1, eB k k0 (by omega)]
            · by_cases e2 : k = j + 1
              · rw [inz_eq e2, inz_eq e2]
              · rw [inz_gt (by omega), inz_gt (by omega), eB (k - 1) (by omega) (by omega)]
    · rw [e5 k (by omega) (by omega) (by omega), b8 k z h1 h2, q_u_n (by omega)]
    · rw [e5 247 (by decide) (by decide) (by decide), b7, setf_n (by omega), q_u_k (by decide)]
  · rw [if_neg c5, if_neg c5]
    refine ⟨q_u s 245 (6 * x + j) (tlst t'), ?_, ?_, ?_, fun k z h1 h2 => q_u_n (by omega), fun z hz => q_u_n (by omega)⟩
    · have := cc_spM (d := d + 3) (L := L) (xs := xs) (O := O) (c := c) (s := s) (l := l) (x := x) (y := y) (j := j) l0 l1 hy hx hj sx.1 (by omega) yr.1 (by omega) j0 (by omega) (by omega)
      rw [y0] at this
      exact this
    · have e9 : q_g (q_u s 245 (6 * x + j) (tlst t')) 242 9 = q_g s 242 9 := q_gu_ne (by omega)
      rw [e9]
      exact stp_m (D1 := dC s) S j0 j1 (by rw [hyy]; exact C0) dA.2 dA.1
    · rw [q_gu_ne (by omega)]
      omega
end CPT
