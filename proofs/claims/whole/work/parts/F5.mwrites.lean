/-! THE REFERENCE: new nodes as they will be written -/
noncomputable def pgK (tq : Int → Int) (t : Tr) (k : Int) : Int := if tpg t = -1 then tq k else tpg t
noncomputable def PlN (tq pl : Int → Int) : Tr → Int → Prop := tr_rec (fun p n a b k => p = -1 → pl (16 * tq k) = 1 ∧ pl (16 * tq k + 1) = n ∧ pl (16 * tq k + 3) = -1 ∧ ∀ i, 0 ≤ i → i < n → pl (16 * tq k + (4 + i)) = a i ∧ pl (16 * tq k + (10 + i)) = b i) (fun p n a c r_ k => p = -1 → (pl (16 * tq k) = 2 ∧ pl (16 * tq k + 1) = n ∧ pl (16 * tq k + 3) = -1 ∧ ∀ i, 0 ≤ i → i < n → pl (16 * tq k + (4 + i)) = a i ∧ pl (16 * tq k + (10 + i)) = pgK tq (c i) (k + 1 + smz (fun i => cN (c i)) i.toNat)) ∧ ∀ j, 0 ≤ j → j < n → r_ j (k + 1 + smz (fun i => cN (c i)) j.toNat))
theorem PlN_e1 (tq pl : Int → Int) (p n : Int) (a : Int → Int) (b : Int → Int) (k : Int) : PlN tq pl (.lf p n a b) k = (p = -1 → pl (16 * tq k) = 1 ∧ pl (16 * tq k + 1) = n ∧ pl (16 * tq k + 3) = -1 ∧ ∀ i, 0 ≤ i → i < n → pl (16 * tq k + (4 + i)) = a i ∧ pl (16 * tq k + (10 + i)) = b i) := rfl
theorem PlN_e2 (tq pl : Int → Int) (p n : Int) (a : Int → Int) (c : Int → Tr) (k : Int) : PlN tq pl (.br p n a c) k = (p = -1 → (pl (16 * tq k) = 2 ∧ pl (16 * tq k + 1) = n ∧ pl (16 * tq k + 3) = -1 ∧ ∀ i, 0 ≤ i → i < n → pl (16 * tq k + (4 + i)) = a i ∧ pl (16 * tq k + (10 + i)) = pgK tq (c i) (k + 1 + smz (fun i => cN (c i)) i.toNat)) ∧ ∀ j, 0 ≤ j → j < n → PlN tq pl (c j) (k + 1 + smz (fun i => cN (c i)) j.toNat)) := rfl
section MWN
variable {d L : Nat} {xs : Nat → Int32} {O : Nat → Int64} {c : Bool × Nat × Nat} {m : Int → Int} {N : Int}
theorem Lab_pg {D : Ar} {tq pf : Int → Int} {t : Tr} {k x : Int} (h : Lab D tq pf t k x) : pf x = pgK tq t k := by
  cases t using Tr_cs with
  | lf p n a b =>
    try dsimp only [Lab_e1, Lab_e2] at *
    exact h
  | br p n a c =>
    try dsimp only [Lab_e1, Lab_e2] at *
    exact h.1
theorem PlN_fr {tq pl pl' : Int → Int} : ∀ {t : Tr} {h : Nat} {lo hi k : Int}, Okt t h lo hi → PlN tq pl t k → (∀ i, k ≤ i → i < k + cN t → ∀ w, 0 ≤ w → w < 16 → pl' (16 * tq i + w) = pl (16 * tq i + w)) → PlN tq pl' t k := by
  intro t
  induction t using Tr_rc with
  | lf p n a b =>
    try dsimp only [Okt_e1, Okt_e2, PlN_e1, PlN_e2] at *
    intro h lo hi k o H e hp
    have n4 := o.2.2.1
    obtain ⟨h1, h2, h3, h4⟩ := H hp
    have e := e k (by omega) (by rw [cN_e1, if_pos hp]; omega)
    have e0 := e 0 (by omega) (by omega)
    rw [Int.add_zero] at e0
    try dsimp only [Okt_e1, Okt_e2, PlN_e1, PlN_e2]
    refine ⟨e0.trans h1, (e 1 (by omega) (by omega)).trans h2, (e 3 (by omega) (by omega)).trans h3, fun i i0 i1 => ?_⟩
    obtain ⟨q1, q2⟩ := h4 i i0 i1
    exact ⟨(e (4 + i) (by omega) (by omega)).trans q1, (e (10 + i) (by omega) (by omega)).trans q2⟩
  | br p n a c ih =>
    try dsimp only [Okt_e1, Okt_e2, PlN_e1, PlN_e2] at *
    rintro h lo hi k ⟨h', eh, n0, n4, r⟩ H e hp
    obtain ⟨⟨h1, h2, h3, h4⟩, h5⟩ := H hp
    have ec : cN (.br p n a c) = 1 + smz (fun i => cN (c i)) n.toNat := by
      rw [cN_e2]
      rw [if_pos hp]
    rw [ec] at e
    have s0 := smz_0 (f := fun k => cN (c k)) (n := n.toNat) (fun k _ _ => cN_0 (c k))
    have ek := e k (by omega) (by omega)
    have e0 := ek 0 (by omega) (by omega)
    rw [Int.add_zero] at e0
    try dsimp only [Okt_e1, Okt_e2, PlN_e1, PlN_e2]
    refine ⟨⟨e0.trans h1, (ek 1 (by omega) (by omega)).trans h2, (ek 3 (by omega) (by omega)).trans h3, fun i i0 i1 => ?_⟩, fun j j0 j1 => ih j (r j j0 j1).2.2 (h5 j j0 j1) (fun i i0 i1 => ?_)⟩
    · obtain ⟨q1, q2⟩ := h4 i i0 i1
      exact ⟨(ek (4 + i) (by omega) (by omega)).trans q1, (ek (10 + i) (by omega) (by omega)).trans q2⟩
    · have := off_le (c := c) j0 j1
      exact e i (by omega) (by omega)
theorem mm_where {s : Nat → Int → Int32} {y : Int} (y0 : 2 ≤ y) (y1 : y < 240) : EV (d + 1) 274 0 [.ref 285, .int (q_I (y))] [] (q_h L xs s O c) = some (.inl (some (.int (q_I (pfM s y)))), q_h L xs (s) O c) := by
  have is := mm_isNew (d := d) (L := L) (xs := xs) (s := s) (O := O) (c := c) (y := y)
  unfold pfM
  by_cases e : y < 48
  · rw [if_pos e]
    rw [q_bf (by rw [q_sg_id (by omega) (by omega)]; omega)] at is
    simp (disch := first | omega | exact q_b_01 _) only [↓reduceIte, q_bk0, q_bk1, q_bk2, q_sg_b, q_b_0, q_b_n0, q_b_1, q_b_n1, q_b_T, q_b_F, q_sg_g, q_sg_sg, q_sg_xs, q_sg_id, q_gu_ne, q_gu_eq, q_g_fne, q_g_cpe, q_w_f, q_v_f, q_u_f, q_fn_f, q_cp_f, q_sg_pg, q_sg_hc, q_lt_t, q_lt_f, q_le_t, q_le_f, q_eq_t, q_eq_f, ne_eq, eq_self, Bool.false_eq_true, Bool.true_eq_false, not_true_eq_false, not_false_eq_true, true_and, and_true, false_and, and_false, true_or, or_true, false_or, or_false, if_true, if_false, Int.reduceAdd, Int.reduceMul, Int.reduceSub, Int.reduceNeg, is, R_274_0, R_274_5, R_274_9, R_274_12, R_274_16, R_274_22, C_274_6]
  · rw [if_neg e]
    rw [q_bt (by rw [q_sg_id (by omega) (by omega)]; omega)] at is
    simp (disch := first | omega | exact q_b_01 _) only [↓reduceIte, q_bk0, q_bk1, q_bk2, q_sg_b, q_b_0, q_b_n0, q_b_1, q_b_n1, q_b_T, q_b_F, q_sg_g, q_sg_sg, q_sg_xs, q_sg_id, q_gu_ne, q_gu_eq, q_g_fne, q_g_cpe, q_w_f, q_v_f, q_u_f, q_fn_f, q_cp_f, q_sg_pg, q_sg_hc, q_lt_t, q_lt_f, q_le_t, q_le_f, q_eq_t, q_eq_f, ne_eq, eq_self, Bool.false_eq_true, Bool.true_eq_false, not_true_eq_false, not_false_eq_true, true_and, and_true, false_and, and_false, true_or, or_true, false_or, or_false, if_true, if_false, Int.reduceAdd, Int.reduceMul, Int.reduceSub, Int.reduceNeg, is, R_274_0, R_274_5, R_274_9, R_274_12, R_274_16, R_274_22, C_274_6]
theorem mm_cells {s : Nat → Int → Int32} {x q n K : Int} {V : Int → Int} (x0 : 0 ≤ x) (x1 : x < 240) (q0 : 0 ≤ q) (q1 : q + 16 ≤ 768) (hK : q_g s 294 x = K) (hR : q_g s 295 x = n) (n0 : 0 ≤ n) (n6 : n ≤ 6) (hV : ∀ j, 0 ≤ j → j < n → (K = 2 → 2 ≤ q_g s 297 (6 * x + j) ∧ q_g s 297 (6 * x + j) < 240 ∧ pfM s (q_g s 297 (6 * x + j)) = V j) ∧ (K ≠ 2 → q_g s 297 (6 * x + j) = V j)) (x4 : Value) : ∃ u y4, EV (d + 2) 275 57 [.ref 285, .int (q_I (x)), .int (q_I (q)), .int (q_I (0)), x4] [] (q_h L xs s O c) = EV (d + 2) 275 160 [.ref 285, .int (q_I (x)), .int (q_I (q)), .int (q_I (6)), y4] [] (q_h L xs (u) O c) ∧ (∀ j, 0 ≤ j → j < n → q_g u 305 (q + (4 + j)) = q_g s 296 (6 * x + j) ∧ q_g u 305 (q + (10 + j)) = q_sg (V j)) ∧ (∀ z, ¬ (q + 4 ≤ z ∧ z < q + 16) → u 305 z = s 305 z) ∧ ∀ k z, k ≠ 305 → u k z = s k z := by
  obtain ⟨t, t1, t2, t3, t4⟩ := q_for (fun j (t : (Nat → Int → Int32) × Value) => EV (d + 2) 275 57 [.ref 285, .int (q_I (x)), .int (q_I (q)), .int (q_I (j)), t.2] [] (q_h L xs (t.1) O c)) (fun j t => (∀ i, 0 ≤ i → i < j → i < n → q_g t.1 305 (q + (4 + i)) = q_g s 296 (6 * x + i) ∧ q_g t.1 305 (q + (10 + i)) = q_sg (V i)) ∧ (∀ z, ¬ (q + 4 ≤ z ∧ z < q + 16) → t.1 305 z = s 305 z) ∧ ∀ k z, k ≠ 305 → t.1 k z = s k z) (lo := 0) (hi := 6) (by omega) (fun j t j0 j1 P => by
      obtain ⟨P1, P2, P3⟩ := P
      have gg : ∀ k z, k ≠ 305 → q_g t.1 k z = q_g s k z := fun k z hk => by
        show (t.1 k z).toInt = _
        rw [P3 k z hk]
        rfl
      have g5 : q_g t.1 295 x = n := by rw [gg 295 x (by omega), hR]
      have g6 := gg 296 (6 * x + j) (by omega)
      by_cases e : j < n
      · obtain ⟨v1, v2⟩ := hV j j0 e
        generalize hM : q_u t.1 305 (q + 4 + j) (q_g s 296 (6 * x + j)) = M
        have Mg : ∀ k z, k ≠ 305 → q_g M k z = q_g s k z := fun k z hk => by rw [← hM, q_gu_ne (by omega), gg k z hk]
        have m4 : q_g M 294 x = K := by rw [Mg 294 x (by omega), hK]
        have m7 := Mg 297 (6 * x + j) (by omega)
        have ar := q_g_rg s 296 (6 * x + j)
        refine ⟨(q_u M 305 (q + 10 + j) (V j), .int (q_I 1)), ?_, fun i i0 i1 i2 => ?_, fun z hz => ?_, fun k z hk => ?_⟩
        · show EV (d + 2) 275 57 [.ref 285, .int (q_I (x)), .int (q_I (q)), .int (q_I (j)), t.2] [] (q_h L xs (t.1) O c) = EV (d + 2) 275 57 [.ref 285, .int (q_I (x)), .int (q_I (q)), .int (q_I (j + 1)), .int (q_I (1))] [] (q_h L xs (q_u M 305 (q + 10 + j) (V j)) O c)
          rw [R_275_57 (x3 := j)]
          by_cases k2 : K = 2
          · obtain ⟨b0, b1, b2⟩ := v1 k2
            have hw := mm_where (d := d) (L := L) (xs := xs) (s := M) (O := O) (c := c) (y := q_g s 297 (6 * x + j)) b0 b1
            have ew : pfM M (q_g s 297 (6 * x + j)) = V j := by
              rw [← b2]
              unfold pfM
              rw [Mg 298 _ (by omega)]
            rw [ew] at hw
            simp (disch := first | omega | exact q_b_01 _) only [↓reduceIte, q_bk0, q_bk1, q_bk2, q_sg_b, q_b_0, q_b_n0, q_b_1, q_b_n1, q_b_T, q_b_F, q_sg_g, q_sg_sg, q_sg_xs, q_sg_id, q_gu_ne, q_gu_eq, q_g_fne, q_g_cpe, q_w_f, q_v_f, q_u_f, q_fn_f, q_cp_f, q_sg_pg, q_sg_hc, q_lt_t, q_lt_f, q_le_t, q_le_f, q_eq_t, q_eq_f, ne_eq, eq_self, Bool.false_eq_true, Bool.true_eq_false, not_true_eq_false, not_false_eq_true, true_and, and_true, false_and, and_false, true_or, or_true, false_or, or_false, if_true, if_false, Int.reduceAdd, Int.reduceMul, Int.reduceSub, Int.reduceNeg, g5, mm_a, g6, hM, m4, k2, mm_b, m7, hw, R_275_0, R_275_4, R_275_7, R_275_8, R_275_16, R_275_31, R_275_32, R_275_45, R_275_46, R_275_55, R_275_63, R_275_70, R_275_73, R_275_77, R_275_78, R_275_94, R_275_100, R_275_103, R_275_104, R_275_105, R_275_120, R_275_124, R_275_130, R_275_134, R_275_144, R_275_147, R_275_153, R_275_154, R_275_162, R_275_169, R_275_172, R_275_178, R_275_182, R_275_192, R_275_198, C_275_1, C_275_97, C_275_138, C_275_141, C_275_150, C_275_186, C_275_189]
          · have b2 := v2 k2
            rw [b2] at m7
            have k2' : ¬ q_g M 294 x = 2 := by rw [m4]; exact k2
            simp (disch := first | omega | exact q_b_01 _) only [↓reduceIte, q_bk0, q_bk1, q_bk2, q_sg_b, q_b_0, q_b_n0, q_b_1, q_b_n1, q_b_T, q_b_F, q_sg_g, q_sg_sg, q_sg_xs, q_sg_id, q_gu_ne, q_gu_eq, q_g_fne, q_g_cpe, q_w_f, q_v_f, q_u_f, q_fn_f, q_cp_f, q_sg_pg, q_sg_hc, q_lt_t, q_lt_f, q_le_t, q_le_f, q_eq_t, q_eq_f, ne_eq, eq_self, Bool.false_eq_true, Bool.true_eq_false, not_true_eq_false, not_false_eq_true, true_and, and_true, false_and, and_false, true_or, or_true, false_or, or_false, if_true, if_false, Int.reduceAdd, Int.reduceMul, Int.reduceSub, Int.reduceNeg, g5, mm_a, g6, hM, k2', mm_b, m7, R_275_0, R_275_4, R_275_7, R_275_8, R_275_16, R_275_31, R_275_32, R_275_45, R_275_46, R_275_55, R_275_63, R_275_70, R_275_73, R_275_77, R_275_78, R_275_94, R_275_100, R_275_103, R_275_104, R_275_105, R_275_120, R_275_124, R_275_130, R_275_134, R_275_144, R_275_147, R_275_153, R_275_154, R_275_162, R_275_169, R_275_172, R_275_178, R_275_182, R_275_192, R_275_198, C_275_1, C_275_97, C_275_138, C_275_141, C_275_150, C_275_186, C_275_189]
        · dsimp only
          by_cases ei : i = j
          · rw [ei]
            refine ⟨?_, ?_⟩
            · rw [q_gu_ne (by omega), ← hM, q_gu_eq (by omega), q_sg_id ar.1 ar.2]
            · rw [q_gu_eq (by omega)]
          · obtain ⟨y1, y2⟩ := P1 i i0 (by omega) i2
            refine ⟨?_, ?_⟩
            · rw [q_gu_ne (by omega), ← hM, q_gu_ne (by omega)]
              exact y1
            · rw [q_gu_ne (by omega), ← hM, q_gu_ne (by omega)]
              exact y2
        · dsimp only
          rw [q_u_n (by omega), ← hM, q_u_n (by omega), P2 z hz]
        · dsimp only
          rw [q_u_n (by omega), ← hM, q_u_n (by omega), P3 k z hk]
      · refine ⟨(q_u (q_u t.1 305 (q + 4 + j) 0) 305 (q + 10 + j) 0, .int (q_I 0)), ?_, fun i i0 i1 i2 => ?_, fun z hz => ?_, fun k z hk => ?_⟩
        · show EV (d + 2) 275 57 [.ref 285, .int (q_I (x)), .int (q_I (q)), .int (q_I (j)), t.2] [] (q_h L xs (t.1) O c) = EV (d + 2) 275 57 [.ref 285, .int (q_I (x)), .int (q_I (q)), .int (q_I (j + 1)), .int (q_I (0))] [] (q_h L xs (q_u (q_u t.1 305 (q + 4 + j) 0) 305 (q + 10 + j) 0) O c)
          rw [R_275_57 (x3 := j)]
          simp (disch := first | omega | exact q_b_01 _) only [↓reduceIte, q_bk0, q_bk1, q_bk2, q_sg_b, q_b_0, q_b_n0, q_b_1, q_b_n1, q_b_T, q_b_F, q_sg_g, q_sg_sg, q_sg_xs, q_sg_id, q_gu_ne, q_gu_eq, q_g_fne, q_g_cpe, q_w_f, q_v_f, q_u_f, q_fn_f, q_cp_f, q_sg_pg, q_sg_hc, q_lt_t, q_lt_f, q_le_t, q_le_f, q_eq_t, q_eq_f, ne_eq, eq_self, Bool.false_eq_true, Bool.true_eq_false, not_true_eq_false, not_false_eq_true, true_and, and_true, false_and, and_false, true_or, or_true, false_or, or_false, if_true, if_false, Int.reduceAdd, Int.reduceMul, Int.reduceSub, Int.reduceNeg, g5, R_275_0, R_275_4, R_275_7, R_275_8, R_275_16, R_275_31, R_275_32, R_275_45, R_275_46, R_275_55, R_275_63, R_275_70, R_275_73, R_275_77, R_275_78, R_275_94, R_275_100, R_275_103, R_275_104, R_275_105, R_275_120, R_275_124, R_275_130, R_275_134, R_275_144, R_275_147, R_275_153, R_275_154, R_275_162, R_275_169, R_275_172, R_275_178, R_275_182, R_275_192, R_275_198, C_275_1, C_275_97, C_275_138, C_275_141, C_275_150, C_275_186, C_275_189]
        · obtain ⟨y1, y2⟩ := P1 i i0 (by omega) i2
          dsimp only
          refine ⟨?_, ?_⟩
          · rw [q_gu_ne (by omega), q_gu_ne (by omega)]
            exact y1
          · rw [q_gu_ne (by omega), q_gu_ne (by omega)]
            exact y2
        · dsimp only
          rw [q_u_n (by omega), q_u_n (by omega), P2 z hz]
        · dsimp only
          rw [q_u_n (by omega), q_u_n (by omega), P3 k z hk]) (t := (s, x4)) ⟨fun i i0 i1 => by omega, fun _ _ => rfl, fun _ _ _ => rfl⟩
  refine ⟨t.1, t.2, ?_, fun j j0 j1 => t2 j j0 (by omega) j1, t3, t4⟩
  refine t1.trans ?_
  show EV (d + 2) 275 57 [.ref 285, .int (q_I (x)), .int (q_I (q)), .int (q_I (6)), t.2] [] (q_h L xs (t.1) O c) = _
  rw [R_275_57]
  simp (disch := first | omega | exact q_b_01 _) only [↓reduceIte, q_bk0, q_bk1, q_bk2, q_sg_b, q_b_0, q_b_n0, q_b_1, q_b_n1, q_b_T, q_b_F, q_sg_g, q_sg_sg, q_sg_xs, q_sg_id, q_gu_ne, q_gu_eq, q_g_fne, q_g_cpe, q_w_f, q_v_f, q_u_f, q_fn_f, q_cp_f, q_sg_pg, q_sg_hc, q_lt_t, q_lt_f, q_le_t, q_le_f, q_eq_t, q_eq_f, ne_eq, eq_self, Bool.false_eq_true, Bool.true_eq_false, not_true_eq_false, not_false_eq_true, true_and, and_true, false_and, and_false, true_or, or_true, false_or, or_false, if_true, if_false, Int.reduceAdd, Int.reduceMul, Int.reduceSub, Int.reduceNeg]
end MWN
