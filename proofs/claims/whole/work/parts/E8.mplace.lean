/-! NEW NODES take pages, one, then all beneath it; the reference -/
noncomputable def pfM (u : Nat → Int → Int32) (x : Int) : Int := if x < 48 then x else q_g u 298 x
noncomputable def Gq (s u : Nat → Int → Int32) : Prop := ∀ k z, ¬ (k = 285 ∧ (z = 35 ∨ z = 36)) → k ≠ 302 → k ≠ 298 → u k z = s k z
/-- so far, ahead of child j -/
noncomputable def PMl (m F : Int → Int) (s : Nat → Int → Int32) (n : Int) (cc : Int → Tr) (k x j : Int) (u : Nat → Int → Int32) : Prop :=
  MTk m F (k + 1 + smz (fun i => cN (cc i)) j.toNat) u ∧ k + 1 + smz (fun i => cN (cc i)) j.toNat ≤ cap m ∧ (∀ i, 0 ≤ i → i < j → Lab (dM s) (tp m) (pfM u) (cc i) (k + 1 + smz (fun i => cN (cc i)) i.toNat) ((dM s).B x i)) ∧ q_g u 298 x = tp m k ∧ (∀ z, z ≠ x → (∀ i, 0 ≤ i → i < n → ¬ Wi (dM s) (cc i) ((dM s).B x i) z) → u 298 z = s 298 z) ∧ Gq s u
section MPL
variable {d L : Nat} {xs : Nat → Int32} {O : Nat → Int64} {c : Bool × Nat × Nat} {m F : Int → Int} {N : Int}
theorem Gq_dM {s u : Nat → Int → Int32} (h : Gq s u) : dM u = dM s := dM_c (fun k h1 h2 => funext fun z => h k z (by omega) (by omega) (by omega))
theorem Gt_Gq {s u : Nat → Int → Int32} (h : Gt s u) : Gq s u := fun k z h1 h2 _ => h k z h1 h2
theorem Gq_trans {s u w : Nat → Int → Int32} (h : Gq s u) (h' : Gq u w) : Gq s w := fun k z h1 h2 h3 => by rw [h' k z h1 h2 h3, h k z h1 h2 h3]
theorem MTk_u {s : Nat → Int → Int32} {k : Int} (C : MTk m F k s) {z v : Int} : MTk m F k (q_u s 298 z v) := by
  obtain ⟨c1, c2, c3, c4⟩ := C
  exact ⟨by rw [q_u_f (by omega)]; exact c1, fun p p0 p1 => by rw [q_gu_ne (by omega), q_gu_ne (by omega)]; exact c2 p p0 p1, by rw [q_gu_ne (by omega)]; exact c3, by rw [q_gu_ne (by omega)]; exact c4⟩
theorem mm_placeF {s : Nat → Int → Int32} {x : Int} (hf : q_g s 285 36 = 1) (x0 : -2147483648 ≤ x) (x1 : x < 2147483648) : EV (d + 1) 273 0 [.ref 285, .int (q_I (x)), .null] [] (q_h L xs s O c) = some (.inl none, q_h L xs (s) O c) := by
  by_cases e : 48 ≤ x
  · have is := mm_isNew (d := d) (L := L) (xs := xs) (s := s) (O := O) (c := c) (y := x)
    rw [q_bt (by rw [q_sg_id x0 x1]; exact e)] at is
    simp (disch := first | omega | exact q_b_01 _) only [↓reduceIte, q_bk0, q_bk1, q_bk2, q_sg_b, q_b_0, q_b_n0, q_b_1, q_b_n1, q_b_T, q_b_F, q_sg_g, q_sg_sg, q_sg_xs, q_sg_id, q_gu_ne, q_gu_eq, q_g_fne, q_g_cpe, q_w_f, q_v_f, q_u_f, q_fn_f, q_cp_f, q_sg_pg, q_sg_hc, q_lt_t, q_lt_f, q_le_t, q_le_f, q_eq_t, q_eq_f, ne_eq, eq_self, Bool.false_eq_true, Bool.true_eq_false, not_true_eq_false, not_false_eq_true, true_and, and_true, false_and, and_false, true_or, or_true, false_or, or_false, if_true, if_false, Int.reduceAdd, Int.reduceMul, Int.reduceSub, Int.reduceNeg, is, hf, R_273_0, R_273_4, R_273_7, R_273_14, R_273_15, R_273_24, R_273_25, R_273_34, R_273_37, R_273_43, R_273_47, R_273_57, R_273_63, C_273_1, C_273_21, C_273_51, C_273_54]
  · have is := mm_isNew (d := d) (L := L) (xs := xs) (s := s) (O := O) (c := c) (y := x)
    rw [q_bf (by rw [q_sg_id x0 x1]; exact e)] at is
    simp (disch := first | omega | exact q_b_01 _) only [↓reduceIte, q_bk0, q_bk1, q_bk2, q_sg_b, q_b_0, q_b_n0, q_b_1, q_b_n1, q_b_T, q_b_F, q_sg_g, q_sg_sg, q_sg_xs, q_sg_id, q_gu_ne, q_gu_eq, q_g_fne, q_g_cpe, q_w_f, q_v_f, q_u_f, q_fn_f, q_cp_f, q_sg_pg, q_sg_hc, q_lt_t, q_lt_f, q_le_t, q_le_f, q_eq_t, q_eq_f, ne_eq, eq_self, Bool.false_eq_true, Bool.true_eq_false, not_true_eq_false, not_false_eq_true, true_and, and_true, false_and, and_false, true_or, or_true, false_or, or_false, if_true, if_false, Int.reduceAdd, Int.reduceMul, Int.reduceSub, Int.reduceNeg, is, R_273_0, R_273_4, R_273_7, R_273_14, R_273_15, R_273_24, R_273_25, R_273_34, R_273_37, R_273_43, R_273_47, R_273_57, R_273_63, C_273_1, C_273_21, C_273_51, C_273_54]
/-- all that is beneath is passed over, once the disk is full -/
theorem mm_placeFL {s : Nat → Int → Int32} {x n : Int} (hf : q_g s 285 36 = 1) (x0 : 0 ≤ x) (x1 : x < 240) (hR : q_g s 295 x = n) (n5 : n ≤ 5) : ∀ (f : Nat) (j : Int), n - j = f → 0 ≤ j → EV (d + 2) 273 27 [.ref 285, .int (q_I (x)), .int (q_I (j))] [] (q_h L xs s O c) = some (.inl none, q_h L xs (s) O c)
  | 0, j, hj, j0 => by
    rw [R_273_27 (h0 := by omega) (h1 := by omega)]
    simp (disch := first | omega | exact q_b_01 _) only [↓reduceIte, q_bk0, q_bk1, q_bk2, q_sg_b, q_b_0, q_b_n0, q_b_1, q_b_n1, q_b_T, q_b_F, q_sg_g, q_sg_sg, q_sg_xs, q_sg_id, q_gu_ne, q_gu_eq, q_g_fne, q_g_cpe, q_w_f, q_v_f, q_u_f, q_fn_f, q_cp_f, q_sg_pg, q_sg_hc, q_lt_t, q_lt_f, q_le_t, q_le_f, q_eq_t, q_eq_f, ne_eq, eq_self, Bool.false_eq_true, Bool.true_eq_false, not_true_eq_false, not_false_eq_true, true_and, and_true, false_and, and_false, true_or, or_true, false_or, or_false, if_true, if_false, Int.reduceAdd, Int.reduceMul, Int.reduceSub, Int.reduceNeg, hR, R_273_0, R_273_4, R_273_7, R_273_14, R_273_15, R_273_24, R_273_25, R_273_34, R_273_37, R_273_43, R_273_47, R_273_57, R_273_63, C_273_1, C_273_21, C_273_51, C_273_54]
  | f + 1, j, hj, j0 => by
    rw [R_273_27 (h0 := by omega) (h1 := by omega)]
    have br := q_g_rg s 297 (6 * x + j)
    have ih := mm_placeFL hf x0 x1 hR n5 f (j + 1) (by omega) (by omega)
    have pf := mm_placeF (d := d) (L := L) (xs := xs) (O := O) (c := c) (x := q_g s 297 (6 * x + j)) hf br.1 br.2
    by_cases k2 : q_g s 294 x = 2
    · simp (disch := first | omega | exact q_b_01 _) only [↓reduceIte, q_bk0, q_bk1, q_bk2, q_sg_b, q_b_0, q_b_n0, q_b_1, q_b_n1, q_b_T, q_b_F, q_sg_g, q_sg_sg, q_sg_xs, q_sg_id, q_gu_ne, q_gu_eq, q_g_fne, q_g_cpe, q_w_f, q_v_f, q_u_f, q_fn_f, q_cp_f, q_sg_pg, q_sg_hc, q_lt_t, q_lt_f, q_le_t, q_le_f, q_eq_t, q_eq_f, ne_eq, eq_self, Bool.false_eq_true, Bool.true_eq_false, not_true_eq_false, not_false_eq_true, true_and, and_true, false_and, and_false, true_or, or_true, false_or, or_false, if_true, if_false, Int.reduceAdd, Int.reduceMul, Int.reduceSub, Int.reduceNeg, hR, k2, mm_b, pf, R_273_0, R_273_4, R_273_7, R_273_14, R_273_15, R_273_24, R_273_25, R_273_34, R_273_37, R_273_43, R_273_47, R_273_57, R_273_63, C_273_1, C_273_21, C_273_51, C_273_54]
      exact ih
    · simp (disch := first | omega | exact q_b_01 _) only [↓reduceIte, q_bk0, q_bk1, q_bk2, q_sg_b, q_b_0, q_b_n0, q_b_1, q_b_n1, q_b_T, q_b_F, q_sg_g, q_sg_sg, q_sg_xs, q_sg_id, q_gu_ne, q_gu_eq, q_g_fne, q_g_cpe, q_w_f, q_v_f, q_u_f, q_fn_f, q_cp_f, q_sg_pg, q_sg_hc, q_lt_t, q_lt_f, q_le_t, q_le_f, q_eq_t, q_eq_f, ne_eq, eq_self, Bool.false_eq_true, Bool.true_eq_false, not_true_eq_false, not_false_eq_true, true_and, and_true, false_and, and_false, true_or, or_true, false_or, or_false, if_true, if_false, Int.reduceAdd, Int.reduceMul, Int.reduceSub, Int.reduceNeg, hR, k2, R_273_0, R_273_4, R_273_7, R_273_14, R_273_15, R_273_24, R_273_25, R_273_34, R_273_37, R_273_43, R_273_47, R_273_57, R_273_63, C_273_1, C_273_21, C_273_51, C_273_54]
theorem mm_place (I : TkI m) (hF : FuI m F) : ∀ {t : Tr} {h : Nat} {lo hi : Int} (x k : Int) (s : Nat → Int → Int32), Okt t h lo hi → Sub (dM s) N t x → N ≤ 240 → MTk m F k s → 0 ≤ k → k ≤ cap m →
    (k + cN t ≤ cap m → ∃ u, EV (d + h + 5) 273 0 [.ref 285, .int (q_I (x)), .null] [] (q_h L xs s O c) = some (.inl none, q_h L xs (u) O c) ∧ MTk m F (k + cN t) u ∧ Lab (dM s) (tp m) (pfM u) t k x ∧ (∀ z, ¬ Wi (dM s) t x z → u 298 z = s 298 z) ∧ Gq s u) ∧
    (cap m < k + cN t → ∃ u, EV (d + h + 5) 273 0 [.ref 285, .int (q_I (x)), .null] [] (q_h L xs s O c) = some (.inl none, q_h L xs (u) O c) ∧ q_g u 285 36 = 1 ∧ Gq s u) := by
  intro t
  induction t using Tr_rc generalizing d with
  | lf p n a b =>
    try dsimp only [Wi_e1, Wi_e2, Okt_e1, Okt_e2, Lab_e1, Lab_e2] at *
    intro h lo hi x k s o S hN C k0 kc
    have xr := S.2.2 x rfl
    have eh := o.1
    have n4 := o.2.2.1
    have n1 := o.2.1
    subst eh
    obtain ⟨r1, r2, r3, r4, r5, r6⟩ := Sub_R1 S
    have r1 : q_g s 294 x = 1 := r1
    have r2 : q_g s 295 x = n := r2
    have is := mm_isNew (d := d + 4) (L := L) (xs := xs) (s := s) (O := O) (c := c) (y := x)
    by_cases hp : p = -1
    · have f1 : 48 ≤ x := by
        rcases r5 with ⟨f, e⟩ | ⟨f, e⟩
        · omega
        · have f : (if x < 48 then (0 : Int) else 1) = 1 := f
          split at f <;> omega
      have ec : cN (.lf p n a b) = 1 := by
        rw [cN_e1]
        rw [if_pos hp]
      rw [ec]
      rw [q_bt (by rw [q_sg_id (by omega) (by omega)]; exact f1)] at is
      have c36 := C.2.2.2
      obtain ⟨t1, t2⟩ := mm_takes (d := d) (L := L) (xs := xs) (O := O) (c := c) I hF C k0 kc
      constructor
      · intro hk
        obtain ⟨u, u1, u2, u3⟩ := t1 (by omega)
        have tr := tp_rg I k0 (by omega)
        have g94 : q_g u 294 x = 1 := by
          show (u 294 x).toInt = 1
          rw [u3 294 x (by omega) (by omega)]
          exact r1
        have g95 : q_g u 295 x = n := by
          show (u 295 x).toInt = n
          rw [u3 295 x (by omega) (by omega)]
          exact r2
        try dsimp only [Wi_e1, Wi_e2, Okt_e1, Okt_e2, Lab_e1, Lab_e2]
        refine ⟨q_u u 298 x (tp m k), ?_, MTk_u u2, ?_, ?_, ?_⟩
        · simp (disch := first | omega | exact q_b_01 _) only [↓reduceIte, q_bk0, q_bk1, q_bk2, q_sg_b, q_b_0, q_b_n0, q_b_1, q_b_n1, q_b_T, q_b_F, q_sg_g, q_sg_sg, q_sg_xs, q_sg_id, q_gu_ne, q_gu_eq, q_g_fne, q_g_cpe, q_w_f, q_v_f, q_u_f, q_fn_f, q_cp_f, q_sg_pg, q_sg_hc, q_lt_t, q_lt_f, q_le_t, q_le_f, q_eq_t, q_eq_f, ne_eq, eq_self, Bool.false_eq_true, Bool.true_eq_false, not_true_eq_false, not_false_eq_true, true_and, and_true, false_and, and_false, true_or, or_true, false_or, or_false, if_true, if_false, Int.reduceAdd, Int.reduceMul, Int.reduceSub, Int.reduceNeg, is, c36, u1, g94, g95, R_273_0, R_273_4, R_273_7, R_273_14, R_273_15, R_273_24, R_273_25, R_273_27, R_273_34, R_273_37, R_273_43, R_273_47, R_273_57, R_273_63, C_273_1, C_273_21, C_273_51, C_273_54]
        · show pfM _ x = if p = -1 then tp m k else p
          unfold pfM
          rw [if_pos hp, if_neg (by omega), q_gu_eq rfl, q_sg_id (by omega) (by omega)]
        · intro z hz
          have : z ≠ x := hz
          rw [q_u_n (by omega), u3 298 z (by omega) (by omega)]
        · intro k z h1 h2 h3
          rw [q_u_n (by omega), u3 k z h1 h2]
      · intro hk
        obtain ⟨u, u1, u2, u3⟩ := t2 (by omega)
        have g94 : q_g u 294 x = 1 := by
          show (u 294 x).toInt = 1
          rw [u3 294 x (by omega) (by omega)]
          exact r1
        have g95 : q_g u 295 x = n := by
          show (u 295 x).toInt = n
          rw [u3 295 x (by omega) (by omega)]
          exact r2
        try dsimp only [Wi_e1, Wi_e2, Okt_e1, Okt_e2, Lab_e1, Lab_e2]
        refine ⟨q_u u 298 x 0, ?_, by rw [q_gu_ne (by omega)]; exact u2, fun k z h1 h2 h3 => by rw [q_u_n (by omega), u3 k z h1 h2]⟩
        simp (disch := first | omega | exact q_b_01 _) only [↓reduceIte, q_bk0, q_bk1, q_bk2, q_sg_b, q_b_0, q_b_n0, q_b_1, q_b_n1, q_b_T, q_b_F, q_sg_g, q_sg_sg, q_sg_xs, q_sg_id, q_gu_ne, q_gu_eq, q_g_fne, q_g_cpe, q_w_f, q_v_f, q_u_f, q_fn_f, q_cp_f, q_sg_pg, q_sg_hc, q_lt_t, q_lt_f, q_le_t, q_le_f, q_eq_t, q_eq_f, ne_eq, eq_self, Bool.false_eq_true, Bool.true_eq_false, not_true_eq_false, not_false_eq_true, true_and, and_true, false_and, and_false, true_or, or_true, false_or, or_false, if_true, if_false, Int.reduceAdd, Int.reduceMul, Int.reduceSub, Int.reduceNeg, is, c36, u1, g94, g95, R_273_0, R_273_4, R_273_7, R_273_14, R_273_15, R_273_24, R_273_25, R_273_27, R_273_34, R_273_37, R_273_43, R_273_47, R_273_57, R_273_63, C_273_1, C_273_21, C_273_51, C_273_54]
    · have f0 : x < 48 ∧ p = x := by
        rcases r5 with ⟨f, e⟩ | ⟨f, e⟩
        · have f : (if x < 48 then (0 : Int) else 1) = 0 := f
          split at f <;> omega
        · exact absurd e hp
      have ec : cN (.lf p n a b) = 0 := by
        rw [cN_e1]
        rw [if_neg hp]
      rw [ec]
      rw [q_bf (by rw [q_sg_id (by omega) (by omega)]; omega)] at is
      try dsimp only [Wi_e1, Wi_e2, Okt_e1, Okt_e2, Lab_e1, Lab_e2]
      refine ⟨fun hk => ⟨s, ?_, by rw [Int.add_zero]; exact C, ?_, fun z hz => rfl, fun k z h1 h2 h3 => rfl⟩, fun hk => by omega⟩
      · simp (disch := first | omega | exact q_b_01 _) only [↓reduceIte, q_bk0, q_bk1, q_bk2, q_sg_b, q_b_0, q_b_n0, q_b_1, q_b_n1, q_b_T, q_b_F, q_sg_g, q_sg_sg, q_sg_xs, q_sg_id, q_gu_ne, q_gu_eq, q_g_fne, q_g_cpe, q_w_f, q_v_f, q_u_f, q_fn_f, q_cp_f, q_sg_pg, q_sg_hc, q_lt_t, q_lt_f, q_le_t, q_le_f, q_eq_t, q_eq_f, ne_eq, eq_self, Bool.false_eq_true, Bool.true_eq_false, not_true_eq_false, not_false_eq_true, true_and, and_true, false_and, and_false, true_or, or_true, false_or, or_false, if_true, if_false, Int.reduceAdd, Int.reduceMul, Int.reduceSub, Int.reduceNeg, is, R_273_0, R_273_4, R_273_7, R_273_14, R_273_15, R_273_24, R_273_25, R_273_27, R_273_34, R_273_37, R_273_43, R_273_47, R_273_57, R_273_63, C_273_1, C_273_21, C_273_51, C_273_54]
      · show pfM _ x = if p = -1 then tp m k else p
        unfold pfM
        rw [if_neg hp, if_pos f0.1, f0.2]
  | br p n a cc ih =>
    try dsimp only [Wi_e1, Wi_e2, Okt_e1, Okt_e2, Lab_e1, Lab_e2] at *
    intro h lo hi x k s o S hN C k0 kc
    have xr := S.2.2 x (Or.inl rfl)
    have o0 := o
    obtain ⟨h', eh, n0, n4, ok⟩ := o
    subst eh
    obtain ⟨r1, r2, r3, r4, r5, r6⟩ := Sub_R2 S
    have r1 : q_g s 294 x = 2 := r1
    have r2 : q_g s 295 x = n := r2
    have is := mm_isNew (d := d + h' + 5) (L := L) (xs := xs) (s := s) (O := O) (c := c) (y := x)
    have ed : d + (h' + 1) + 5 = d + h' + 5 + 1 := by omega
    by_cases hp : p = -1
    · have f1 : 48 ≤ x := by
        rcases r5 with ⟨f, e⟩ | ⟨f, e⟩
        · omega
        · have f : (if x < 48 then (0 : Int) else 1) = 1 := f
          split at f <;> omega
      have ec : cN (.br p n a cc) = 1 + smz (fun i => cN (cc i)) n.toNat := by
        rw [cN_e2]
        rw [if_pos hp]
      have s0 := smz_0 (f := fun k => cN (cc k)) (n := n.toNat) (fun k _ _ => cN_0 (cc k))
      rw [ec]
      rw [q_bt (by rw [q_sg_id (by omega) (by omega)]; exact f1)] at is
      have c36 := C.2.2.2
      obtain ⟨t1, t2⟩ := mm_takes (d := d + h' + 1) (L := L) (xs := xs) (O := O) (c := c) I hF C k0 kc
      have et : d + h' + 1 + 4 = d + h' + 5 := by omega
      rw [et] at t1 t2
      by_cases kk : k < cap m
      · obtain ⟨u, u1, u2, u3⟩ := t1 kk
        have tr := tp_rg I k0 kk
        have dis := S.2.1
        rw [Dis_e2] at dis
        have wk : ∀ j, 0 ≤ j → j < n → ¬ Wi (dM s) (cc j) ((dM s).B x j) x := fun j j0 j1 => (dis j j0 j1).2.1
        have loop : ∀ (f : Nat) (j : Int) (w : Nat → Int → Int32), n - j = f → 0 ≤ j → PMl m F s n cc k x j w → (k + (1 + smz (fun i => cN (cc i)) n.toNat) ≤ cap m → ∃ v, EV (d + h' + 5 + 1) 273 27 [.ref 285, .int (q_I (x)), .int (q_I (j))] [] (q_h L xs (w) O c) = some (.inl none, q_h L xs (v) O c) ∧ PMl m F s n cc k x n v) ∧ (cap m < k + (1 + smz (fun i => cN (cc i)) n.toNat) → ∃ v, EV (d + h' + 5 + 1) 273 27 [.ref 285, .int (q_I (x)), .int (q_I (j))] [] (q_h L xs (w) O c) = some (.inl none, q_h L xs (v) O c) ∧ q_g v 285 36 = 1 ∧ Gq s v) := by
          intro f
          induction f with
          | zero =>
            intro j w hj j0 P
            have ej : j = n := by omega
            subst ej
            have g95 : q_g w 295 x = j := by
              show (w 295 x).toInt = j
              rw [P.2.2.2.2.2 295 x (by omega) (by omega) (by omega)]
              exact r2
            try dsimp only [Wi_e1, Wi_e2, Okt_e1, Okt_e2, Lab_e1, Lab_e2]
            refine ⟨fun hk => ⟨w, ?_, P⟩, fun hk => ?_⟩
            · rw [R_273_27 (h0 := by omega) (h1 := by omega)]
              simp (disch := first | omega | exact q_b_01 _) only [↓reduceIte, q_bk0, q_bk1, q_bk2, q_sg_b, q_b_0, q_b_n0, q_b_1, q_b_n1, q_b_T, q_b_F, q_sg_g, q_sg_sg, q_sg_xs, q_sg_id, q_gu_ne, q_gu_eq, q_g_fne, q_g_cpe, q_w_f, q_v_f, q_u_f, q_fn_f, q_cp_f, q_sg_pg, q_sg_hc, q_lt_t, q_lt_f, q_le_t, q_le_f, q_eq_t, q_eq_f, ne_eq, eq_self, Bool.false_eq_true, Bool.true_eq_false, not_true_eq_false, not_false_eq_true, true_and, and_true, false_and, and_false, true_or, or_true, false_or, or_false, if_true, if_false, Int.reduceAdd, Int.reduceMul, Int.reduceSub, Int.reduceNeg, g95, R_273_0, R_273_4, R_273_7, R_273_14, R_273_15, R_273_24, R_273_25, R_273_34, R_273_37, R_273_43, R_273_47, R_273_57, R_273_63, C_273_1, C_273_21, C_273_51, C_273_54]
            · have := P.2.1
              omega
          | succ f jh =>
            intro j w hj j0 P
            obtain ⟨p1, p2, p3, p4, p6, p8⟩ := id P
            have eD := Gq_dM p8
            have g95 : q_g w 295 x = n := by
              show (w 295 x).toInt = n
              rw [p8 295 x (by omega) (by omega) (by omega)]
              exact r2
            have g94 : q_g w 294 x = 2 := by
              show (w 294 x).toInt = 2
              rw [p8 294 x (by omega) (by omega) (by omega)]
              exact r1
            have g97 : q_g w 297 (6 * x + j) = (dM s).B x j := by
              rw [← eD]
              rfl
            have Sk := Sub_kid S j0 (show j < n by omega)
            have yr := Sk.2.2 _ (Wi_self _ _ _)
            have ol := off_le (c := cc) (n := n) j0 (by omega)
            obtain ⟨i1, i2⟩ := ih j (d := d) ((dM s).B x j) (k + 1 + smz (fun i => cN (cc i)) j.toNat) w (ok j j0 (by omega)).2.2 (by rw [eD]; exact Sk) hN p1 (by omega) p2
            rw [eD] at i1
            by_cases kj : k + 1 + smz (fun i => cN (cc i)) j.toNat + cN (cc j) ≤ cap m
            · obtain ⟨v, v1, v2, v3, v5, v7⟩ := i1 kj
              have es : k + 1 + smz (fun i => cN (cc i)) j.toNat + cN (cc j) = k + 1 + smz (fun i => cN (cc i)) (j + 1).toNat := by
                rw [smz_s j0]
                omega
              have nx : PMl m F s n cc k x (j + 1) v := by
                try dsimp only [Wi_e1, Wi_e2, Okt_e1, Okt_e2, Lab_e1, Lab_e2]
                refine ⟨by rw [← es]; exact v2, by omega, fun i i0 i1 => ?_, ?_, fun z z1 z2 => ?_, Gq_trans p8 v7⟩
                · by_cases e : i = j
                  · subst e
                    exact v3
                  · refine Lab_fr (p3 i i0 (by omega)) (fun y hy => ?_)
                    unfold pfM
                    split
                    · rfl
                    · show (v 298 y).toInt = _
                      rw [v5 y (fun hw => (dis i i0 (by omega)).2.2 j j0 (by omega) (by omega) y hy hw)]
                      rfl
                · show (v 298 x).toInt = _
                  rw [v5 x (wk j j0 (by omega))]
                  exact p4
                · rw [v5 z (z2 j j0 (by omega)), p6 z z1 z2]
              obtain ⟨j1, j2⟩ := jh (j + 1) v (by omega) (by omega) nx
              try dsimp only [Wi_e1, Wi_e2, Okt_e1, Okt_e2, Lab_e1, Lab_e2]
              refine ⟨fun hk => ?_, fun hk => ?_⟩
              · obtain ⟨q, q1, q2⟩ := j1 hk
                try dsimp only [Wi_e1, Wi_e2, Okt_e1, Okt_e2, Lab_e1, Lab_e2]
                refine ⟨q, ?_, q2⟩
                rw [R_273_27 (h0 := by omega) (h1 := by omega)]
                simp (disch := first | omega | exact q_b_01 _) only [↓reduceIte, q_bk0, q_bk1, q_bk2, q_sg_b, q_b_0, q_b_n0, q_b_1, q_b_n1, q_b_T, q_b_F, q_sg_g, q_sg_sg, q_sg_xs, q_sg_id, q_gu_ne, q_gu_eq, q_g_fne, q_g_cpe, q_w_f, q_v_f, q_u_f, q_fn_f, q_cp_f, q_sg_pg, q_sg_hc, q_lt_t, q_lt_f, q_le_t, q_le_f, q_eq_t, q_eq_f, ne_eq, eq_self, Bool.false_eq_true, Bool.true_eq_false, not_true_eq_false, not_false_eq_true, true_and, and_true, false_and, and_false, true_or, or_true, false_or, or_false, if_true, if_false, Int.reduceAdd, Int.reduceMul, Int.reduceSub, Int.reduceNeg, g94, g95, g97, mm_b, v1, R_273_0, R_273_4, R_273_7, R_273_14, R_273_15, R_273_24, R_273_25, R_273_34, R_273_37, R_273_43, R_273_47, R_273_57, R_273_63, C_273_1, C_273_21, C_273_51, C_273_54]
                exact q1
              · obtain ⟨q, q1, q2⟩ := j2 hk
                try dsimp only [Wi_e1, Wi_e2, Okt_e1, Okt_e2, Lab_e1, Lab_e2]
                refine ⟨q, ?_, q2⟩
                rw [R_273_27 (h0 := by omega) (h1 := by omega)]
                simp (disch := first | omega | exact q_b_01 _) only [↓reduceIte, q_bk0, q_bk1, q_bk2, q_sg_b, q_b_0, q_b_n0, q_b_1, q_b_n1, q_b_T, q_b_F, q_sg_g, q_sg_sg, q_sg_xs, q_sg_id, q_gu_ne, q_gu_eq, q_g_fne, q_g_cpe, q_w_f, q_v_f, q_u_f, q_fn_f, q_cp_f, q_sg_pg, q_sg_hc, q_lt_t, q_lt_f, q_le_t, q_le_f, q_eq_t, q_eq_f, ne_eq, eq_self, Bool.false_eq_true, Bool.true_eq_false, not_true_eq_false, not_false_eq_true, true_and, and_true, false_and, and_false, true_or, or_true, false_or, or_false, if_true, if_false, Int.reduceAdd, Int.reduceMul, Int.reduceSub, Int.reduceNeg, g94, g95, g97, mm_b, v1, R_273_0, R_273_4, R_273_7, R_273_14, R_273_15, R_273_24, R_273_25, R_273_34, R_273_37, R_273_43, R_273_47, R_273_57, R_273_63, C_273_1, C_273_21, C_273_51, C_273_54]
                exact q1
            · obtain ⟨v, v1, v2, v3⟩ := i2 (by omega)
              have v95 : q_g v 295 x = n := by
                show (v 295 x).toInt = n
                rw [v3 295 x (by omega) (by omega) (by omega)]
                exact g95
              have fl := mm_placeFL (d := d + h' + 4) (L := L) (xs := xs) (O := O) (c := c) (s := v) v2 (by omega) (by omega) v95 (by omega) f (j + 1) (by omega) (by omega)
              try dsimp only [Wi_e1, Wi_e2, Okt_e1, Okt_e2, Lab_e1, Lab_e2]
              refine ⟨fun hk => by omega, fun hk => ⟨v, ?_, v2, Gq_trans p8 v3⟩⟩
              rw [R_273_27 (h0 := by omega) (h1 := by omega)]
              simp (disch := first | omega | exact q_b_01 _) only [↓reduceIte, q_bk0, q_bk1, q_bk2, q_sg_b, q_b_0, q_b_n0, q_b_1, q_b_n1, q_b_T, q_b_F, q_sg_g, q_sg_sg, q_sg_xs, q_sg_id, q_gu_ne, q_gu_eq, q_g_fne, q_g_cpe, q_w_f, q_v_f, q_u_f, q_fn_f, q_cp_f, q_sg_pg, q_sg_hc, q_lt_t, q_lt_f, q_le_t, q_le_f, q_eq_t, q_eq_f, ne_eq, eq_self, Bool.false_eq_true, Bool.true_eq_false, not_true_eq_false, not_false_eq_true, true_and, and_true, false_and, and_false, true_or, or_true, false_or, or_false, if_true, if_false, Int.reduceAdd, Int.reduceMul, Int.reduceSub, Int.reduceNeg, g94, g95, g97, mm_b, v1, R_273_0, R_273_4, R_273_7, R_273_14, R_273_15, R_273_24, R_273_25, R_273_34, R_273_37, R_273_43, R_273_47, R_273_57, R_273_63, C_273_1, C_273_21, C_273_51, C_273_54]
              exact fl
        have P0 : PMl m F s n cc k x 0 (q_u u 298 x (tp m k)) := by
          have e0 : k + 1 + smz (fun i => cN (cc i)) (0 : Int).toNat = k + 1 := by
            show k + 1 + 0 = k + 1
            omega
          try dsimp only [Wi_e1, Wi_e2, Okt_e1, Okt_e2, Lab_e1, Lab_e2]
          refine ⟨?_, by omega, fun i i0 i1 => by omega, ?_, fun z z1 z2 => ?_, fun k z h1 h2 h3 => ?_⟩
          · rw [e0]
            exact MTk_u u2
          · rw [q_gu_eq rfl, q_sg_id (by omega) (by omega)]
          · rw [q_u_n (by omega), u3 298 z (by omega) (by omega)]
          · rw [q_u_n (by omega), u3 k z h1 h2]
        have pre : EV (d + (h' + 1) + 5) 273 0 [.ref 285, .int (q_I (x)), .null] [] (q_h L xs s O c) = EV (d + h' + 5 + 1) 273 27 [.ref 285, .int (q_I (x)), .int (q_I (0))] [] (q_h L xs (q_u u 298 x (tp m k)) O c) := by
          rw [ed]
          simp (disch := first | omega | exact q_b_01 _) only [↓reduceIte, q_bk0, q_bk1, q_bk2, q_sg_b, q_b_0, q_b_n0, q_b_1, q_b_n1, q_b_T, q_b_F, q_sg_g, q_sg_sg, q_sg_xs, q_sg_id, q_gu_ne, q_gu_eq, q_g_fne, q_g_cpe, q_w_f, q_v_f, q_u_f, q_fn_f, q_cp_f, q_sg_pg, q_sg_hc, q_lt_t, q_lt_f, q_le_t, q_le_f, q_eq_t, q_eq_f, ne_eq, eq_self, Bool.false_eq_true, Bool.true_eq_false, not_true_eq_false, not_false_eq_true, true_and, and_true, false_and, and_false, true_or, or_true, false_or, or_false, if_true, if_false, Int.reduceAdd, Int.reduceMul, Int.reduceSub, Int.reduceNeg, is, c36, u1, R_273_0, R_273_4, R_273_7, R_273_14, R_273_15, R_273_24, R_273_25, R_273_34, R_273_37, R_273_43, R_273_47, R_273_57, R_273_63, C_273_1, C_273_21, C_273_51, C_273_54]
        obtain ⟨j1, j2⟩ := loop n.toNat 0 _ (by omega) (by omega) P0
        try dsimp only [Wi_e1, Wi_e2, Okt_e1, Okt_e2, Lab_e1, Lab_e2]
        refine ⟨fun hk => ?_, fun hk => ?_⟩
        · obtain ⟨v, v1, p1, p2, p3, p4, p6, p8⟩ := j1 hk
          rw [show k + 1 + smz (fun i => cN (cc i)) n.toNat = k + (1 + smz (fun i => cN (cc i)) n.toNat) by omega] at p1
          try dsimp only [Wi_e1, Wi_e2, Okt_e1, Okt_e2, Lab_e1, Lab_e2]
          refine ⟨v, pre.trans v1, p1, ⟨?_, fun _ j j0 j1 => p3 j j0 j1⟩, fun z hz => p6 z (fun e => hz (Or.inl e)) (fun i i0 i1 hw => hz (Or.inr ⟨i, i0, i1, hw⟩)), p8⟩
          unfold pfM
          rw [if_pos hp, if_neg (by omega)]
          exact p4
        · obtain ⟨v, v1, v2⟩ := j2 hk
          exact ⟨v, pre.trans v1, v2⟩
      · obtain ⟨u, u1, u2, u3⟩ := t2 (by omega)
        have g95 : q_g (q_u u 298 x 0) 295 x = n := by
          rw [q_gu_ne (by omega)]
          show (u 295 x).toInt = n
          rw [u3 295 x (by omega) (by omega)]
          exact r2
        have fl := mm_placeFL (d := d + h' + 4) (L := L) (xs := xs) (O := O) (c := c) (s := q_u u 298 x 0) (by rw [q_gu_ne (by omega)]; exact u2) (by omega) (by omega) g95 (by omega) n.toNat 0 (by omega) (by omega)
        try dsimp only [Wi_e1, Wi_e2, Okt_e1, Okt_e2, Lab_e1, Lab_e2]
        refine ⟨fun hk => by omega, fun hk => ⟨q_u u 298 x 0, ?_, by rw [q_gu_ne (by omega)]; exact u2, fun k z h1 h2 h3 => by rw [q_u_n (by omega), u3 k z h1 h2]⟩⟩
        rw [ed]
        simp (disch := first | omega | exact q_b_01 _) only [↓reduceIte, q_bk0, q_bk1, q_bk2, q_sg_b, q_b_0, q_b_n0, q_b_1, q_b_n1, q_b_T, q_b_F, q_sg_g, q_sg_sg, q_sg_xs, q_sg_id, q_gu_ne, q_gu_eq, q_g_fne, q_g_cpe, q_w_f, q_v_f, q_u_f, q_fn_f, q_cp_f, q_sg_pg, q_sg_hc, q_lt_t, q_lt_f, q_le_t, q_le_f, q_eq_t, q_eq_f, ne_eq, eq_self, Bool.false_eq_true, Bool.true_eq_false, not_true_eq_false, not_false_eq_true, true_and, and_true, false_and, and_false, true_or, or_true, false_or, or_false, if_true, if_false, Int.reduceAdd, Int.reduceMul, Int.reduceSub, Int.reduceNeg, is, c36, u1, R_273_0, R_273_4, R_273_7, R_273_14, R_273_15, R_273_24, R_273_25, R_273_34, R_273_37, R_273_43, R_273_47, R_273_57, R_273_63, C_273_1, C_273_21, C_273_51, C_273_54]
        exact fl
    · have f0 : x < 48 ∧ p = x := by
        rcases r5 with ⟨f, e⟩ | ⟨f, e⟩
        · have f : (if x < 48 then (0 : Int) else 1) = 0 := f
          split at f <;> omega
        · exact absurd e hp
      have ec : cN (.br p n a cc) = 0 := by
        rw [cN_e2]
        rw [if_neg hp]
      rw [ec]
      rw [q_bf (by rw [q_sg_id (by omega) (by omega)]; omega)] at is
      try dsimp only [Wi_e1, Wi_e2, Okt_e1, Okt_e2, Lab_e1, Lab_e2]
      refine ⟨fun hk => ⟨s, ?_, by rw [Int.add_zero]; exact C, ⟨?_, fun q => absurd q hp⟩, fun z hz => rfl, fun k z h1 h2 h3 => rfl⟩, fun hk => by omega⟩
      · rw [ed]
        simp (disch := first | omega | exact q_b_01 _) only [↓reduceIte, q_bk0, q_bk1, q_bk2, q_sg_b, q_b_0, q_b_n0, q_b_1, q_b_n1, q_b_T, q_b_F, q_sg_g, q_sg_sg, q_sg_xs, q_sg_id, q_gu_ne, q_gu_eq, q_g_fne, q_g_cpe, q_w_f, q_v_f, q_u_f, q_fn_f, q_cp_f, q_sg_pg, q_sg_hc, q_lt_t, q_lt_f, q_le_t, q_le_f, q_eq_t, q_eq_f, ne_eq, eq_self, Bool.false_eq_true, Bool.true_eq_false, not_true_eq_false, not_false_eq_true, true_and, and_true, false_and, and_false, true_or, or_true, false_or, or_false, if_true, if_false, Int.reduceAdd, Int.reduceMul, Int.reduceSub, Int.reduceNeg, is, R_273_0, R_273_4, R_273_7, R_273_14, R_273_15, R_273_24, R_273_25, R_273_27, R_273_34, R_273_37, R_273_43, R_273_47, R_273_57, R_273_63, C_273_1, C_273_21, C_273_51, C_273_54]
      · unfold pfM
        rw [if_neg hp, if_pos f0.1, f0.2]
end MPL
