/-! THE DRAFT begins as the disk is, of both -/
section REP
variable {D D' : Ar} {t : Tr} {x : Int}
/-- as Rep_fr, where rows are as they were so far as they are told -/
theorem Rep_frn : ∀ {t : Tr} {x : Int}, Rep D t x → (∀ y, Wi D t x y → D'.K y = D.K y ∧ D'.R y = D.R y ∧ D'.fr y = D.fr y ∧ ∀ k, 0 ≤ k → k < D.R y → D'.A y k = D.A y k ∧ D'.B y k = D.B y k) → Rep D' t x ∧ (∀ y, Wi D' t x y ↔ Wi D t x y) ∧ (Dis D t x → Dis D' t x) := by
  intro t
  induction t using Tr_rc with
  | lf p n a b =>
    try dsimp only [Rep_e1, Rep_e2, Wi_e1, Wi_e2, Dis_e1, Dis_e2] at *
    intro x h hr
    obtain ⟨h1, h2, h3, h4, h5, h6⟩ := h
    obtain ⟨r1, r2, r3, r4⟩ := hr x rfl
    try dsimp only [Rep_e1, Rep_e2, Wi_e1, Wi_e2, Dis_e1, Dis_e2]
    refine ⟨⟨r1.trans h1, r2.trans h2, h3, h4, ?_, fun k k0 k1 => ?_⟩, fun y => Iff.rfl, fun _ => trivial⟩
    · unfold Pgs at *
      rw [r3]
      exact h5
    · obtain ⟨e1, e2⟩ := r4 k k0 (by omega)
      rw [e1, e2]
      exact h6 k k0 k1
  | br p n a cc ih =>
    try dsimp only [Rep_e1, Rep_e2, Wi_e1, Wi_e2, Dis_e1, Dis_e2] at *
    intro x h hr
    obtain ⟨h1, h2, h3, h4, h5, h6⟩ := h
    obtain ⟨r1, r2, r3, r4⟩ := hr x (Or.inl rfl)
    have key : ∀ k, 0 ≤ k → k < n → D'.B x k = D.B x k ∧ D'.A x k = D.A x k ∧ Rep D' (cc k) (D.B x k) ∧ (∀ y, Wi D' (cc k) (D.B x k) y ↔ Wi D (cc k) (D.B x k) y) ∧ (Dis D (cc k) (D.B x k) → Dis D' (cc k) (D.B x k)) := fun k k0 k1 => by
      obtain ⟨e1, e2⟩ := r4 k k0 (by omega)
      obtain ⟨q1, q2, q3⟩ := ih k (h6 k k0 k1).2 (fun y hy => hr y (Or.inr ⟨k, k0, k1, hy⟩))
      exact ⟨e2, e1, q1, q2, q3⟩
    try dsimp only [Rep_e1, Rep_e2, Wi_e1, Wi_e2, Dis_e1, Dis_e2]
    refine ⟨⟨r1.trans h1, r2.trans h2, h3, h4, ?_, fun k k0 k1 => ?_⟩, fun y => ?_, fun hd k k0 k1 => ?_⟩
    · unfold Pgs at *
      rw [r3]
      exact h5
    · obtain ⟨e1, e2, e3, e4, e5⟩ := key k k0 k1
      rw [e1, e2]
      exact ⟨(h6 k k0 k1).1, e3⟩
    · constructor
      · rintro (e | ⟨k, k0, k1, hw⟩)
        · exact Or.inl e
        · obtain ⟨e1, e2, e3, e4, e5⟩ := key k k0 k1
          rw [e1] at hw
          exact Or.inr ⟨k, k0, k1, (e4 y).mp hw⟩
      · rintro (e | ⟨k, k0, k1, hw⟩)
        · exact Or.inl e
        · obtain ⟨e1, e2, e3, e4, e5⟩ := key k k0 k1
          refine Or.inr ⟨k, k0, k1, ?_⟩
          rw [e1]
          exact (e4 y).mpr hw
    · obtain ⟨e1, e2, e3, e4, e5⟩ := key k k0 k1
      obtain ⟨d1, d2, d3⟩ := hd k k0 k1
      rw [e1]
      try dsimp only [Rep_e1, Rep_e2, Wi_e1, Wi_e2, Dis_e1, Dis_e2]
      refine ⟨e5 d1, fun hw => d2 ((e4 x).mp hw), fun k' k0' k1' hk y hy => ?_⟩
      obtain ⟨f1, f2, f3, f4, f5⟩ := key k' k0' k1'
      rw [f1]
      exact fun hw => d3 k' k0' k1' hk y ((e4 y).mp hy) ((f4 y).mp hw)
theorem Sub_frn {N N' : Int} (S : Sub D N t x) (hN : N ≤ N') (h : ∀ y, Wi D t x y → D'.K y = D.K y ∧ D'.R y = D.R y ∧ D'.fr y = D.fr y ∧ ∀ k, 0 ≤ k → k < D.R y → D'.A y k = D.A y k ∧ D'.B y k = D.B y k) : Sub D' N' t x := by
  obtain ⟨r1, r2, r3⟩ := Rep_frn S.1 h
  exact ⟨r1, r3 S.2.1, fun y hy => by have := S.2.2 y ((r2 y).mp hy); omega⟩
end REP
section LOD
variable {d L : Nat} {xs : Nat → Int32} {s : Nat → Int → Int32} {O : Nat → Int64} {c : Bool × Nat × Nat} {m : Int → Int}
theorem cc_load (H : RB m s 7) (Hd : HdI m) (hR : ∀ p, 0 ≤ p → p < 48 → pg m p 1 ≤ 6) : ∃ u, EV (d + 2) 43 0 [.ref 242, .ref 8] [] (q_h L xs s O c) = some (.inl none, q_h L xs (u) O c) ∧ (∀ p, 0 ≤ p → p < 48 → q_g u 243 p = pg m p 0 ∧ q_g u 244 p = pg m p 1 ∧ q_g u 247 p = 0 ∧ q_g u 248 p = 0 ∧ ∀ k, 0 ≤ k → k < pg m p 1 → q_g u 245 (6 * p + k) = pg m p (4 + k) ∧ q_g u 246 (6 * p + k) = pg m p (10 + k)) ∧ q_g u 242 9 = 48 ∧ q_g u 242 10 = hc m 1 ∧ q_g u 242 11 = 0 ∧ q_g u 242 12 = 0 ∧ ∀ k z, ¬ (242 ≤ k ∧ k ≤ 250) → u k z = s k z := by
  generalize hS : q_u (q_v (q_fn (q_cp (q_cp (q_cp (q_cp s 9 0 243 0 48) 10 0 244 0 48) 13 0 245 0 288) 14 0 246 0 288) 247 0 48 (fun _ => 0)) 248 0 48 (fun _ => q_I 0)) 242 9 48 = S
  have e9 : q_g S 9 = q_g s 9 := by
    rw [← hS]
    rw [q_u_f (by omega), q_v_f (by omega), q_fn_f (by omega), q_cp_f (by omega), q_cp_f (by omega), q_cp_f (by omega), q_cp_f (by omega)]
  have e15 : q_g S 15 = q_g s 15 := by
    rw [← hS]
    rw [q_u_f (by omega), q_v_f (by omega), q_fn_f (by omega), q_cp_f (by omega), q_cp_f (by omega), q_cp_f (by omega), q_cp_f (by omega)]
  have ho := cc_ofTheHead (d := d) (L := L) (xs := xs) (s := S) (O := O) (c := c) (w := 1) (by omega) (by omega)
  rw [e9, e15, chc_eq H Hd (by omega) (by omega)] at ho
  have hcr : -2147483648 ≤ hc m 1 ∧ hc m 1 < 2147483648 := by
    rw [← chc_eq H Hd (by omega) (by omega)]
    exact q_g_rg s 15 _
  have f1 : EV (d + 1) 352 0 [.ref 247, .int (q_I (0)), .int (q_I (48)), .int (q_I (0)), .null] [] (q_h L xs (q_cp (q_cp (q_cp (q_cp s 9 0 243 0 48) 10 0 244 0 48) 13 0 245 0 288) 14 0 246 0 288) O c) = some (.inl none, q_h L xs (q_fn (q_cp (q_cp (q_cp (q_cp s 9 0 243 0 48) 10 0 244 0 48) 13 0 245 0 288) 14 0 246 0 288) 247 0 48 (fun _ => 0)) O c) := jj_fill2 ly_a247 (by decide) (by omega) (by omega) (by decide)
  have f2 : EV (d + 1) 351 0 [.ref 248, .int (q_I (0)), .null, .null] [] (q_h L xs (q_fn (q_cp (q_cp (q_cp (q_cp s 9 0 243 0 48) 10 0 244 0 48) 13 0 245 0 288) 14 0 246 0 288) 247 0 48 (fun _ => 0)) O c) = some (.inl none, q_h L xs (q_v (q_fn (q_cp (q_cp (q_cp (q_cp s 9 0 243 0 48) 10 0 244 0 48) 13 0 245 0 288) 14 0 246 0 288) 247 0 48 (fun _ => 0)) 248 0 48 (fun _ => q_I 0)) O c) := jj_fill ly_a248 (by decide)
  have Sg : ∀ k z, k ≠ 242 → q_g (q_u (q_u (q_u S 242 10 (hc m 1)) 242 11 0) 242 12 0) k z = q_g S k z := fun k z hk => by rw [q_gu_ne (by omega), q_gu_ne (by omega), q_gu_ne (by omega)]
  refine ⟨q_u (q_u (q_u S 242 10 (hc m 1)) 242 11 0) 242 12 0, ?_, fun p p0 p1 => ⟨?_, ?_, ?_, ?_, fun k k0 k1 => ⟨?_, ?_⟩⟩, ?_, ?_, ?_, ?_, fun k z hk => ?_⟩
  · simp (disch := first | omega | exact q_b_01 _) only [↓reduceIte, q_bk0, q_bk1, q_bk2, q_sg_b, q_b_0, q_b_n0, q_b_1, q_b_n1, q_b_T, q_b_F, q_sg_g, q_sg_sg, q_sg_xs, q_sg_id, q_gu_ne, q_gu_eq, q_g_fne, q_g_cpe, q_w_f, q_v_f, q_u_f, q_fn_f, q_cp_f, q_sg_pg, q_sg_hc, q_lt_t, q_lt_f, q_le_t, q_le_f, q_eq_t, q_eq_f, ne_eq, eq_self, Bool.false_eq_true, Bool.true_eq_false, not_true_eq_false, not_false_eq_true, true_and, and_true, false_and, and_false, true_or, or_true, false_or, or_false, if_true, if_false, Int.reduceAdd, Int.reduceMul, Int.reduceSub, Int.reduceNeg, f1, f2, hS, ho, R_43_0, R_43_15, R_43_30, R_43_46, R_43_62, R_43_73, R_43_81, R_43_87, R_43_93, R_43_96, R_43_101, R_43_106, C_43_12, C_43_27, C_43_43, C_43_59, C_43_70, C_43_78, C_43_90]
  · rw [Sg 243 p (by omega), ← hS, q_gu_ne (by omega), q_v_ne (by omega), q_g_fne (by omega), q_g_cpe (by omega), q_g_cpe (by omega), q_g_cpe (by omega), q_g_cp, if_pos (by omega), show p - 0 + 0 = p by omega]
    exact rb_kind H p0 p1
  · rw [Sg 244 p (by omega), ← hS, q_gu_ne (by omega), q_v_ne (by omega), q_g_fne (by omega), q_g_cpe (by omega), q_g_cpe (by omega), q_g_cp, if_pos (by omega), show p - 0 + 0 = p by omega, q_g_cpe (by omega)]
    exact rb_size H p0 p1
  · rw [Sg 247 p (by omega), ← hS, q_gu_ne (by omega), q_v_ne (by omega), q_g_fn, if_pos (by omega)]
    rfl
  · rw [Sg 248 p (by omega), ← hS, q_gu_ne (by omega), q_v_g0 _ _ _ p0 p1]
    rfl
  · have h6 := hR p p0 p1
    rw [Sg 245 _ (by omega), ← hS, q_gu_ne (by omega), q_v_ne (by omega), q_g_fne (by omega), q_g_cpe (by omega), q_g_cp, if_pos (by omega), show 6 * p + k - 0 + 0 = p * 6 + k by omega, q_g_cpe (by omega), q_g_cpe (by omega)]
    exact rb_first H p0 p1 k0 k1
  · have h6 := hR p p0 p1
    rw [Sg 246 _ (by omega), ← hS, q_gu_ne (by omega), q_v_ne (by omega), q_g_fne (by omega), q_g_cp, if_pos (by omega), show 6 * p + k - 0 + 0 = p * 6 + k by omega, q_g_cpe (by omega), q_g_cpe (by omega), q_g_cpe (by omega)]
    exact rb_second H p0 p1 k0 k1
  · rw [q_gu_ne (by omega), q_gu_ne (by omega), q_gu_ne (by omega), ← hS, q_gu_eq rfl]
    rfl
  · rw [q_gu_ne (by omega), q_gu_ne (by omega), q_gu_eq rfl, q_sg_id hcr.1 hcr.2]
  · rw [q_gu_ne (by omega), q_gu_eq rfl]
    rfl
  · rw [q_gu_eq rfl]
    rfl
  · rw [q_u_n (by omega), q_u_n (by omega), q_u_n (by omega), ← hS, q_u_n (by omega)]
    show q_v _ 248 0 48 _ k z = s k z
    unfold q_v
    rw [if_neg (by omega), q_fn_n (by omega), q_cp_n (by omega), q_cp_n (by omega), q_cp_n (by omega), q_cp_n (by omega)]
theorem mm_loads (em : q_g s 286 = m) : ∃ u, EV (d + 3) 257 0 [.ref 285, .null, .null] [] (q_h L xs s O c) = some (.inl none, q_h L xs (u) O c) ∧ (∀ p, 0 ≤ p → p < 48 → q_g u 294 p = pg m p 0 ∧ q_g u 295 p = pg m p 1 ∧ q_g u 301 p = 0 ∧ q_g u 302 p = 0 ∧ q_g u 303 p = -1 ∧ ∀ k, 0 ≤ k → k < 6 → q_g u 296 (6 * p + k) = pg m p (4 + k) ∧ q_g u 297 (6 * p + k) = pg m p (10 + k)) ∧ q_g u 285 25 = 48 ∧ q_g u 285 26 = hc m 1 ∧ q_g u 285 29 = 0 ∧ ∀ k z, ¬ (294 ≤ k ∧ k ≤ 297) → ¬ (301 ≤ k ∧ k ≤ 303) → ¬ (k = 285 ∧ (z = 25 ∨ z = 26 ∨ z = 29)) → u k z = s k z := by
  have pr : ∀ p w, -2147483648 ≤ pg m p w ∧ pg m p w < 2147483648 := fun p w => by
    rw [← em]
    exact q_pg_rg s 286 p w
  have inner : ∀ (p : Int) (t : Nat → Int → Int32) (x2 : Value), 0 ≤ p → p < 48 → q_g t 286 = m → ∃ u, EV (d + 3) 257 34 [.ref 285, .int (q_I (p)), .int (q_I (0))] [] (q_h L xs (t) O c) = EV (d + 3) 257 69 [.ref 285, .int (q_I (p)), .int (q_I (6))] [] (q_h L xs (u) O c) ∧ (∀ k, 0 ≤ k → k < 6 → q_g u 296 (6 * p + k) = pg m p (4 + k) ∧ q_g u 297 (6 * p + k) = pg m p (10 + k)) ∧ ∀ k z, ¬ ((k = 296 ∨ k = 297) ∧ 6 * p ≤ z ∧ z < 6 * p + 6) → u k z = t k z := fun p t x2 p0 p1 et => by
    obtain ⟨u, u1, u2, u3⟩ := q_for (fun j w => EV (d + 3) 257 34 [.ref 285, .int (q_I (p)), .int (q_I (j))] [] (q_h L xs (w) O c)) (fun j w => (∀ k, 0 ≤ k → k < j → q_g w 296 (6 * p + k) = pg m p (4 + k) ∧ q_g w 297 (6 * p + k) = pg m p (10 + k)) ∧ ∀ k z, ¬ ((k = 296 ∨ k = 297) ∧ 6 * p ≤ z ∧ z < 6 * p + 6) → w k z = t k z) (lo := 0) (hi := 6) (by omega) (fun j w j0 j1 P => by
      obtain ⟨P1, P2⟩ := P
      have ew : q_g w 286 = m := by
        rw [← et]
        exact funext fun z => by
          show (w 286 z).toInt = _
          rw [P2 286 z (by omega)]
          rfl
      have o1 := mm_of (d := d + 2) (L := L) (xs := xs) (s := w) (O := O) (c := c) (p := p) (w := 4 + j) p0 p1 (by omega) (by omega)
      have o2 := mm_of (d := d + 2) (L := L) (xs := xs) (s := w) (O := O) (c := c) (p := p) (w := 10 + j) p0 p1 (by omega) (by omega)
      rw [ew] at o1 o2
      have r1 := pr p (4 + j)
      have r2 := pr p (10 + j)
      refine ⟨q_u (q_u w 296 (6 * p + j) (pg m p (4 + j))) 297 (6 * p + j) (pg m p (10 + j)), ?_, fun k k0 k1 => ?_, fun k z hk => by rw [q_u_n (by omega), q_u_n (by omega), P2 k z hk]⟩
      · show EV (d + 3) 257 34 [.ref 285, .int (q_I (p)), .int (q_I (j))] [] (q_h L xs (w) O c) = EV (d + 3) 257 34 [.ref 285, .int (q_I (p)), .int (q_I (j + 1))] [] (q_h L xs (q_u (q_u w 296 (6 * p + j) (pg m p (4 + j))) 297 (6 * p + j) (pg m p (10 + j))) O c)
        rw [R_257_34 (x2 := j)]
        simp (disch := first | omega | exact q_b_01 _) only [↓reduceIte, q_bk0, q_bk1, q_bk2, q_sg_b, q_b_0, q_b_n0, q_b_1, q_b_n1, q_b_T, q_b_F, q_sg_g, q_sg_sg, q_sg_xs, q_sg_id, q_gu_ne, q_gu_eq, q_g_fne, q_g_cpe, q_w_f, q_v_f, q_u_f, q_fn_f, q_cp_f, q_sg_pg, q_sg_hc, q_lt_t, q_lt_f, q_le_t, q_le_f, q_eq_t, q_eq_f, ne_eq, eq_self, Bool.false_eq_true, Bool.true_eq_false, not_true_eq_false, not_false_eq_true, true_and, and_true, false_and, and_false, true_or, or_true, false_or, or_false, if_true, if_false, Int.reduceAdd, Int.reduceMul, Int.reduceSub, Int.reduceNeg, o1, o2, mm_enters, R_257_0, R_257_8, R_257_19, R_257_20, R_257_31, R_257_32, R_257_40, R_257_51, R_257_63, R_257_76, R_257_83, R_257_90, R_257_96, R_257_102, R_257_108, R_257_112, R_257_115, R_257_120, C_257_16, C_257_28, C_257_48, C_257_57, C_257_60, C_257_105, C_257_109]
      · by_cases e : k = j
        · rw [e]
          exact ⟨by rw [q_gu_ne (by omega), q_gu_eq rfl, q_sg_id r1.1 r1.2], by rw [q_gu_eq rfl, q_sg_id r2.1 r2.2]⟩
        · obtain ⟨y1, y2⟩ := P1 k k0 (by omega)
          exact ⟨by rw [q_gu_ne (by omega), q_gu_ne (by omega)]; exact y1, by rw [q_gu_ne (by omega), q_gu_ne (by omega)]; exact y2⟩) (t := t) ⟨fun k k0 k1 => by omega, fun _ _ _ => rfl⟩
    refine ⟨u, ?_, u2, u3⟩
    refine u1.trans ?_
    show EV (d + 3) 257 34 [.ref 285, .int (q_I (p)), .int (q_I (6))] [] (q_h L xs (u) O c) = _
    rw [R_257_34]
    simp (disch := first | omega | exact q_b_01 _) only [↓reduceIte, q_bk0, q_bk1, q_bk2, q_sg_b, q_b_0, q_b_n0, q_b_1, q_b_n1, q_b_T, q_b_F, q_sg_g, q_sg_sg, q_sg_xs, q_sg_id, q_gu_ne, q_gu_eq, q_g_fne, q_g_cpe, q_w_f, q_v_f, q_u_f, q_fn_f, q_cp_f, q_sg_pg, q_sg_hc, q_lt_t, q_lt_f, q_le_t, q_le_f, q_eq_t, q_eq_f, ne_eq, eq_self, Bool.false_eq_true, Bool.true_eq_false, not_true_eq_false, not_false_eq_true, true_and, and_true, false_and, and_false, true_or, or_true, false_or, or_false, if_true, if_false, Int.reduceAdd, Int.reduceMul, Int.reduceSub, Int.reduceNeg]
  obtain ⟨t, t1, t2, t3⟩ := q_for (fun j (t : (Nat → Int → Int32) × Value) => EV (d + 3) 257 2 [.ref 285, .int (q_I (j)), t.2] [] (q_h L xs (t.1) O c)) (fun j t => (∀ p, 0 ≤ p → p < j → q_g t.1 294 p = pg m p 0 ∧ q_g t.1 295 p = pg m p 1 ∧ q_g t.1 301 p = 0 ∧ q_g t.1 302 p = 0 ∧ q_g t.1 303 p = -1 ∧ ∀ k, 0 ≤ k → k < 6 → q_g t.1 296 (6 * p + k) = pg m p (4 + k) ∧ q_g t.1 297 (6 * p + k) = pg m p (10 + k)) ∧ ∀ k z, ¬ (294 ≤ k ∧ k ≤ 297) → ¬ (301 ≤ k ∧ k ≤ 303) → t.1 k z = s k z) (lo := 0) (hi := 48) (by omega) (fun j t j0 j1 P => by
      obtain ⟨P1, P2⟩ := P
      have et : q_g t.1 286 = m := by
        rw [← em]
        exact funext fun z => by
          show (t.1 286 z).toInt = _
          rw [P2 286 z (by omega) (by omega)]
          rfl
      have o1 := mm_of (d := d + 2) (L := L) (xs := xs) (s := t.1) (O := O) (c := c) (p := j) (w := 0) j0 j1 (by omega) (by omega)
      have eA : q_g (q_u t.1 294 j (pg m j 0)) 286 = m := by rw [q_u_f (by omega)]; exact et
      have o2 := mm_of (d := d + 2) (L := L) (xs := xs) (s := q_u t.1 294 j (pg m j 0)) (O := O) (c := c) (p := j) (w := 1) j0 j1 (by omega) (by omega)
      rw [et] at o1
      rw [eA] at o2
      obtain ⟨w, w1, w2, w3⟩ := inner j (q_u (q_u t.1 294 j (pg m j 0)) 295 j (pg m j 1)) t.2 j0 j1 (by rw [q_u_f (by omega)]; exact eA)
      have r0 := pr j 0
      have r1 := pr j 1
      refine ⟨(q_u (q_u (q_u w 301 j 0) 302 j 0) 303 j (-1), .int (q_I 6)), ?_, fun p p0 p1 => ?_, fun k z h1 h2 => by
        dsimp only
        rw [q_u_n (by omega), q_u_n (by omega), q_u_n (by omega), w3 k z (by omega), q_u_n (by omega), q_u_n (by omega), P2 k z h1 h2]⟩
      · show EV (d + 3) 257 2 [.ref 285, .int (q_I (j)), t.2] [] (q_h L xs (t.1) O c) = EV (d + 3) 257 2 [.ref 285, .int (q_I (j + 1)), .int (q_I (6))] [] (q_h L xs (q_u (q_u (q_u w 301 j 0) 302 j 0) 303 j (-1)) O c)
        rw [R_257_2 (x1 := j)]
        simp (disch := first | omega | exact q_b_01 _) only [↓reduceIte, q_bk0, q_bk1, q_bk2, q_sg_b, q_b_0, q_b_n0, q_b_1, q_b_n1, q_b_T, q_b_F, q_sg_g, q_sg_sg, q_sg_xs, q_sg_id, q_gu_ne, q_gu_eq, q_g_fne, q_g_cpe, q_w_f, q_v_f, q_u_f, q_fn_f, q_cp_f, q_sg_pg, q_sg_hc, q_lt_t, q_lt_f, q_le_t, q_le_f, q_eq_t, q_eq_f, ne_eq, eq_self, Bool.false_eq_true, Bool.true_eq_false, not_true_eq_false, not_false_eq_true, true_and, and_true, false_and, and_false, true_or, or_true, false_or, or_false, if_true, if_false, Int.reduceAdd, Int.reduceMul, Int.reduceSub, Int.reduceNeg, o1, o2, R_257_0, R_257_8, R_257_19, R_257_20, R_257_31, R_257_32, R_257_40, R_257_51, R_257_63, R_257_76, R_257_83, R_257_90, R_257_96, R_257_102, R_257_108, R_257_112, R_257_115, R_257_120, C_257_16, C_257_28, C_257_48, C_257_57, C_257_60, C_257_105, C_257_109]
        rw [w1]
        simp (disch := first | omega | exact q_b_01 _) only [↓reduceIte, q_bk0, q_bk1, q_bk2, q_sg_b, q_b_0, q_b_n0, q_b_1, q_b_n1, q_b_T, q_b_F, q_sg_g, q_sg_sg, q_sg_xs, q_sg_id, q_gu_ne, q_gu_eq, q_g_fne, q_g_cpe, q_w_f, q_v_f, q_u_f, q_fn_f, q_cp_f, q_sg_pg, q_sg_hc, q_lt_t, q_lt_f, q_le_t, q_le_f, q_eq_t, q_eq_f, ne_eq, eq_self, Bool.false_eq_true, Bool.true_eq_false, not_true_eq_false, not_false_eq_true, true_and, and_true, false_and, and_false, true_or, or_true, false_or, or_false, if_true, if_false, Int.reduceAdd, Int.reduceMul, Int.reduceSub, Int.reduceNeg, R_257_0, R_257_8, R_257_19, R_257_20, R_257_31, R_257_32, R_257_40, R_257_51, R_257_63, R_257_69, R_257_76, R_257_83, R_257_90, R_257_96, R_257_102, R_257_108, R_257_112, R_257_115, R_257_120, C_257_16, C_257_28, C_257_48, C_257_57, C_257_60, C_257_105, C_257_109]
      · dsimp only
        by_cases e : p = j
        · rw [e]
          refine ⟨?_, ?_, ?_, ?_, ?_, fun k k0 k1 => ⟨?_, ?_⟩⟩
          · rw [q_gu_ne (by omega), q_gu_ne (by omega), q_gu_ne (by omega)]
            show (w 294 j).toInt = _
            rw [w3 294 j (by omega), q_u_n (by omega)]
            show q_g (q_u t.1 294 j (pg m j 0)) 294 j = _
            rw [q_gu_eq rfl, q_sg_id r0.1 r0.2]
          · rw [q_gu_ne (by omega), q_gu_ne (by omega), q_gu_ne (by omega)]
            show (w 295 j).toInt = _
            rw [w3 295 j (by omega)]
            show q_g (q_u (q_u t.1 294 j (pg m j 0)) 295 j (pg m j 1)) 295 j = _
            rw [q_gu_eq rfl, q_sg_id r1.1 r1.2]
          · rw [q_gu_ne (by omega), q_gu_ne (by omega), q_gu_eq rfl]
            rfl
          · rw [q_gu_ne (by omega), q_gu_eq rfl]
            rfl
          · rw [q_gu_eq rfl]
            rfl
          · rw [q_gu_ne (by omega), q_gu_ne (by omega), q_gu_ne (by omega)]
            exact (w2 k k0 k1).1
          · rw [q_gu_ne (by omega), q_gu_ne (by omega), q_gu_ne (by omega)]
            exact (w2 k k0 k1).2
        · obtain ⟨y1, y2, y3, y4, y5, y6⟩ := P1 p p0 (by omega)
          have kp : ∀ k z, ¬ ((k = 296 ∨ k = 297) ∧ 6 * j ≤ z ∧ z < 6 * j + 6) → ¬ ((k = 294 ∨ k = 295 ∨ k = 301 ∨ k = 302 ∨ k = 303) ∧ z = j) → q_g (q_u (q_u (q_u w 301 j 0) 302 j 0) 303 j (-1)) k z = q_g t.1 k z := fun k z a1 a2 => by
            rw [q_gu_ne (by omega), q_gu_ne (by omega), q_gu_ne (by omega)]
            show (w k z).toInt = _
            rw [w3 k z a1, q_u_n (by omega), q_u_n (by omega)]
            rfl
          refine ⟨by rw [kp 294 p (by omega) (by omega)]; exact y1, by rw [kp 295 p (by omega) (by omega)]; exact y2, by rw [kp 301 p (by omega) (by omega)]; exact y3, by rw [kp 302 p (by omega) (by omega)]; exact y4, by rw [kp 303 p (by omega) (by omega)]; exact y5, fun k k0 k1 => ?_⟩
          rw [kp 296 _ (by omega) (by omega), kp 297 _ (by omega) (by omega)]
          exact y6 k k0 k1) (t := (s, .null)) ⟨fun p p0 p1 => by omega, fun _ _ _ _ => rfl⟩
  have ew : q_g (q_u t.1 285 25 48) 286 = m := by
    rw [q_u_f (by omega), ← em]
    exact funext fun z => by
      show (t.1 286 z).toInt = _
      rw [t3 286 z (by omega) (by omega)]
      rfl
  have hh := hd_01 m
  have h1 := mm_theHead (d := d + 1) (L := L) (xs := xs) (s := q_u t.1 285 25 48) (O := O) (c := c)
  have h2 := mm_of (d := d + 2) (L := L) (xs := xs) (s := q_u t.1 285 25 48) (O := O) (c := c) (p := hd m) (w := 5) (by omega) (by omega) (by omega) (by omega)
  rw [ew] at h1 h2
  have e2 : pg m (hd m) 5 = hc m 1 := rfl
  rw [e2] at h2
  have hr := pr (hd m) 5
  rw [e2] at hr
  refine ⟨q_u (q_u (q_u t.1 285 25 48) 285 26 (hc m 1)) 285 29 0, ?_, fun p p0 p1 => ?_, by rw [q_gu_ne (by omega), q_gu_ne (by omega), q_gu_eq rfl]; rfl, by rw [q_gu_ne (by omega), q_gu_eq rfl, q_sg_id hr.1 hr.2], by rw [q_gu_eq rfl]; rfl, fun k z a1 a2 a3 => by rw [q_u_n (by omega), q_u_n (by omega), q_u_n (by omega), t3 k z a1 a2]⟩
  · rw [R_257_0]
    refine t1.trans ?_
    show EV (d + 3) 257 2 [.ref 285, .int (q_I (48)), t.2] [] (q_h L xs (t.1) O c) = _
    rw [R_257_2]
    simp (disch := first | omega | exact q_b_01 _) only [↓reduceIte, q_bk0, q_bk1, q_bk2, q_sg_b, q_b_0, q_b_n0, q_b_1, q_b_n1, q_b_T, q_b_F, q_sg_g, q_sg_sg, q_sg_xs, q_sg_id, q_gu_ne, q_gu_eq, q_g_fne, q_g_cpe, q_w_f, q_v_f, q_u_f, q_fn_f, q_cp_f, q_sg_pg, q_sg_hc, q_lt_t, q_lt_f, q_le_t, q_le_f, q_eq_t, q_eq_f, ne_eq, eq_self, Bool.false_eq_true, Bool.true_eq_false, not_true_eq_false, not_false_eq_true, true_and, and_true, false_and, and_false, true_or, or_true, false_or, or_false, if_true, if_false, Int.reduceAdd, Int.reduceMul, Int.reduceSub, Int.reduceNeg, h1, h2, R_257_0, R_257_8, R_257_19, R_257_20, R_257_31, R_257_32, R_257_40, R_257_51, R_257_63, R_257_69, R_257_76, R_257_83, R_257_90, R_257_96, R_257_102, R_257_108, R_257_112, R_257_115, R_257_120, C_257_16, C_257_28, C_257_48, C_257_57, C_257_60, C_257_105, C_257_109]
  · obtain ⟨y1, y2, y3, y4, y5, y6⟩ := t2 p p0 p1
    have g : ∀ k z, k ≠ 285 → q_g (q_u (q_u (q_u t.1 285 25 48) 285 26 (hc m 1)) 285 29 0) k z = q_g t.1 k z := fun k z hk => by rw [q_gu_ne (by omega), q_gu_ne (by omega), q_gu_ne (by omega)]
    refine ⟨by rw [g 294 p (by omega)]; exact y1, by rw [g 295 p (by omega)]; exact y2, by rw [g 301 p (by omega)]; exact y3, by rw [g 302 p (by omega)]; exact y4, by rw [g 303 p (by omega)]; exact y5, fun k k0 k1 => ?_⟩
    rw [g 296 _ (by omega), g 297 _ (by omega)]
    exact y6 k k0 k1
end LOD
