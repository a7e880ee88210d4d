/-! THE REFERENCE: the way of a key in the draft -/
section MSK
variable {d L : Nat} {xs : Nat → Int32} {s u : Nat → Int → Int32} {O : Nat → Int64} {c : Bool × Nat × Nat} {N key lo hi n : Int} {h : Nat} {t : Tr} {x y : Int} {a : Int → Int}
theorem dM_c {s u : Nat → Int → Int32} (h : ∀ k, 294 ≤ k → k ≤ 297 → u k = s k) : dM u = dM s := by
  unfold dM dQ q_g
  rw [h 294 (by omega) (by omega), h (294 + 1) (by omega) (by omega), h (294 + 2) (by omega) (by omega), h (294 + 3) (by omega) (by omega)]
theorem mm_slot {x2 : Int} (k0' : -2147483648 ≤ key) (k1' : key < 2147483648) (x0 : 2 ≤ x) (x1 : x < 240) (hR : q_g s 295 x = n) (n5 : n ≤ 5) (hA : ∀ k, 0 ≤ k → k < n → q_g s 296 (6 * x + k) = a k) : ∀ (f : Nat) (k : Int), n - k ≤ f → 0 ≤ k → k < n → EV (d + 1) 264 20 [.ref 285, .int (q_I (key)), .int (q_I (x2)), .int (q_I (x)), .int (q_I (k))] [] (q_h L xs s O c) = EV (d + 1) 264 52 [.ref 285, .int (q_I (key)), .int (q_I (x2)), .int (q_I (x)), .int (q_I (slF n a key f k))] [] (q_h L xs s O c)
  | 0, k, hf, h0, h1 => by omega
  | f + 1, k, hf, h0, h1 => by
    unfold slF
    rw [R_264_20 (h0 := by omega) (h1 := by omega)]
    by_cases c1 : k + 1 < n
    · have hA1 := hA (k + 1) (by omega) c1
      have rg := q_g_rg s 296 (6 * x + (k + 1))
      rw [hA1] at rg
      by_cases c2 : a (k + 1) ≤ key
      · rw [if_pos ⟨c1, c2⟩, ← mm_slot k0' k1' x0 x1 hR n5 hA f (k + 1) (by omega) (by omega) c1]
        simp (disch := first | omega | exact q_b_01 _) only [↓reduceIte, q_bk0, q_bk1, q_bk2, q_sg_b, q_b_0, q_b_n0, q_b_1, q_b_n1, q_b_T, q_b_F, q_sg_g, q_sg_sg, q_sg_xs, q_sg_id, q_gu_ne, q_gu_eq, q_g_fne, q_g_cpe, q_w_f, q_v_f, q_u_f, q_fn_f, q_cp_f, q_sg_pg, q_sg_hc, q_lt_t, q_lt_f, q_le_t, q_le_f, q_eq_t, q_eq_f, ne_eq, eq_self, Bool.false_eq_true, Bool.true_eq_false, not_true_eq_false, not_false_eq_true, true_and, and_true, false_and, and_false, true_or, or_true, false_or, or_false, if_true, if_false, Int.reduceAdd, Int.reduceMul, Int.reduceSub, Int.reduceNeg, hR, hA1, R_264_0, R_264_13, R_264_17, R_264_30, R_264_33, R_264_42, R_264_46, R_264_52, R_264_59, R_264_67, R_264_77, R_264_81, R_264_88, C_264_39, C_264_74, mm_a]
      · rw [if_neg (fun z => c2 z.2)]
        simp (disch := first | omega | exact q_b_01 _) only [↓reduceIte, q_bk0, q_bk1, q_bk2, q_sg_b, q_b_0, q_b_n0, q_b_1, q_b_n1, q_b_T, q_b_F, q_sg_g, q_sg_sg, q_sg_xs, q_sg_id, q_gu_ne, q_gu_eq, q_g_fne, q_g_cpe, q_w_f, q_v_f, q_u_f, q_fn_f, q_cp_f, q_sg_pg, q_sg_hc, q_lt_t, q_lt_f, q_le_t, q_le_f, q_eq_t, q_eq_f, ne_eq, eq_self, Bool.false_eq_true, Bool.true_eq_false, not_true_eq_false, not_false_eq_true, true_and, and_true, false_and, and_false, true_or, or_true, false_or, or_false, if_true, if_false, Int.reduceAdd, Int.reduceMul, Int.reduceSub, Int.reduceNeg, hR, hA1, R_264_0, R_264_13, R_264_17, R_264_30, R_264_33, R_264_42, R_264_46, R_264_59, R_264_67, R_264_77, R_264_81, R_264_88, C_264_39, C_264_74, mm_a]
    · rw [if_neg (fun z => c1 z.1)]
      simp (disch := first | omega | exact q_b_01 _) only [↓reduceIte, q_bk0, q_bk1, q_bk2, q_sg_b, q_b_0, q_b_n0, q_b_1, q_b_n1, q_b_T, q_b_F, q_sg_g, q_sg_sg, q_sg_xs, q_sg_id, q_gu_ne, q_gu_eq, q_g_fne, q_g_cpe, q_w_f, q_v_f, q_u_f, q_fn_f, q_cp_f, q_sg_pg, q_sg_hc, q_lt_t, q_lt_f, q_le_t, q_le_f, q_eq_t, q_eq_f, ne_eq, eq_self, Bool.false_eq_true, Bool.true_eq_false, not_true_eq_false, not_false_eq_true, true_and, and_true, false_and, and_false, true_or, or_true, false_or, or_false, if_true, if_false, Int.reduceAdd, Int.reduceMul, Int.reduceSub, Int.reduceNeg, hR, R_264_0, R_264_13, R_264_17, R_264_30, R_264_33, R_264_42, R_264_46, R_264_59, R_264_67, R_264_77, R_264_81, R_264_88, C_264_39, C_264_74]
theorem mm_seekL (k0' : -2147483648 ≤ key) (k1' : key < 2147483648) : ∀ {t : Tr} {h : Nat} {lo hi : Int} (x l : Int) (s : Nat → Int → Int32) (x4 : Value), Okt t h lo hi → Rep (dM s) t x → (∀ y, Wi (dM s) t x y → 2 ≤ y ∧ y < 240) → 0 ≤ l → l + h < 16 → ∃ u, EV (d + 1) 264 7 [.ref 285, .int (q_I (key)), .int (q_I (l)), .int (q_I (x)), x4] [] (q_h L xs s O c) = some (.inl (some (.int (q_I (l + h)))), q_h L xs (u) O c) ∧ (∀ i : Nat, i ≤ h → q_g u 299 (l + i) = wyn (dM s) key t x i) ∧ (∀ i : Nat, i < h → q_g u 300 (l + i) = sln key t i) ∧ (∀ k z, k ≠ 299 → k ≠ 300 → u k z = s k z) ∧ ∀ z, z < l → u 299 z = s 299 z ∧ u 300 z = s 300 z := by
  intro t
  induction t using Tr_rc with
  | lf p n a b =>
    try dsimp only [Rep_e1, Rep_e2, Wi_e1, Wi_e2, Okt_e1, Okt_e2] at *
    rintro h lo hi x l s x4 ⟨e, n0, n1, o⟩ hr hw l0 l1
    subst e
    have xr := hw x rfl
    have hK : q_g s 294 x = 1 := hr.1
    try dsimp only [Rep_e1, Rep_e2, Wi_e1, Wi_e2, Okt_e1, Okt_e2]
    refine ⟨q_u s 299 l x, ?_, fun i hi => ?_, fun i hi => by omega, fun k z h1 h2 => q_u_n (by omega), fun z hz => ⟨q_u_n (by omega), q_u_n (by omega)⟩⟩
    · rw [R_264_7 (h0 := by omega) (h1 := by omega)]
      simp (disch := first | omega | exact q_b_01 _) only [↓reduceIte, q_bk0, q_bk1, q_bk2, q_sg_b, q_b_0, q_b_n0, q_b_1, q_b_n1, q_b_T, q_b_F, q_sg_g, q_sg_sg, q_sg_xs, q_sg_id, q_gu_ne, q_gu_eq, q_g_fne, q_g_cpe, q_w_f, q_v_f, q_u_f, q_fn_f, q_cp_f, q_sg_pg, q_sg_hc, q_lt_t, q_lt_f, q_le_t, q_le_f, q_eq_t, q_eq_f, ne_eq, eq_self, Bool.false_eq_true, Bool.true_eq_false, not_true_eq_false, not_false_eq_true, true_and, and_true, false_and, and_false, true_or, or_true, false_or, or_false, if_true, if_false, Int.reduceAdd, Int.reduceMul, Int.reduceSub, Int.reduceNeg, hK, R_264_0, R_264_13, R_264_17, R_264_30, R_264_33, R_264_42, R_264_46, R_264_52, R_264_59, R_264_67, R_264_77, R_264_81, R_264_88, C_264_39, C_264_74]
      simp
    · have e : i = 0 := by omega
      subst e
      rw [q_gu_eq (by simp), q_sg_id (by omega) (by omega), wyn_0]
  | br p n a cc ih =>
    try dsimp only [Rep_e1, Rep_e2, Wi_e1, Wi_e2, Okt_e1, Okt_e2] at *
    rintro h lo hi x l s x4 ⟨h', e, n0, n1, r⟩ hr hw l0 l1
    subst e
    obtain ⟨s0, s1, s2, s3⟩ := slt_ok (n := n) (a := a) (key := key) n0
    have xr := hw x (Or.inl rfl)
    have hK : q_g s 294 x = 2 := hr.1
    have hR : q_g s 295 x = n := hr.2.1
    have slo := mm_slot (d := d) (L := L) (xs := xs) (O := O) (c := c) (s := s) (x2 := l) (key := key) (a := a) k0' k1' xr.1 (by omega) hR (by omega) (fun k k0 k1 => (hr.2.2.2.2.2 k k0 k1).1) n.toNat 0 (by omega) (by omega) (by omega)
    have eslt : slF n a key n.toNat 0 = slt n a key := rfl
    rw [eslt] at slo
    have eD : dM (q_u (q_u s 299 l x) 300 l (slt n a key)) = dM s := dM_c (fun k k0 k1 => by rw [q_u_k (by omega), q_u_k (by omega)])
    have q := ih (slt n a key) ((dM s).B x (slt n a key)) (l + 1) (q_u (q_u s 299 l x) 300 l (slt n a key)) (.int (q_I (slt n a key))) (r _ s0 s1).2.2 (by rw [eD]; exact (hr.2.2.2.2.2 _ s0 s1).2) (by rw [eD]; exact fun y hy => hw y (Or.inr ⟨_, s0, s1, hy⟩)) (by omega) (by omega)
    rw [eD] at q
    obtain ⟨u, u1, u3, u4, u5, u6⟩ := q
    have bB : q_g (q_u (q_u s 299 l x) 300 l (slt n a key)) 297 (6 * x + slt n a key) = (dM s).B x (slt n a key) := by rw [q_gu_ne (by omega), q_gu_ne (by omega)]; rfl
    try dsimp only [Rep_e1, Rep_e2, Wi_e1, Wi_e2, Okt_e1, Okt_e2]
    refine ⟨u, ?_, fun i hi => ?_, fun i hi => ?_, fun k z h1 h2 => ?_, fun z hz => ?_⟩
    · rw [R_264_7 (h0 := by omega) (h1 := by omega)]
      simp (disch := first | omega | exact q_b_01 _) only [↓reduceIte, q_bk0, q_bk1, q_bk2, q_sg_b, q_b_0, q_b_n0, q_b_1, q_b_n1, q_b_T, q_b_F, q_sg_g, q_sg_sg, q_sg_xs, q_sg_id, q_gu_ne, q_gu_eq, q_g_fne, q_g_cpe, q_w_f, q_v_f, q_u_f, q_fn_f, q_cp_f, q_sg_pg, q_sg_hc, q_lt_t, q_lt_f, q_le_t, q_le_f, q_eq_t, q_eq_f, ne_eq, eq_self, Bool.false_eq_true, Bool.true_eq_false, not_true_eq_false, not_false_eq_true, true_and, and_true, false_and, and_false, true_or, or_true, false_or, or_false, if_true, if_false, Int.reduceAdd, Int.reduceMul, Int.reduceSub, Int.reduceNeg, hK, R_264_0, R_264_13, R_264_17, R_264_30, R_264_33, R_264_42, R_264_46, R_264_59, R_264_67, R_264_77, R_264_81, R_264_88, C_264_39, C_264_74]
      rw [slo, R_264_52 (h0 := by omega) (h1 := by omega)]
      simp (disch := first | omega | exact q_b_01 _) only [↓reduceIte, q_bk0, q_bk1, q_bk2, q_sg_b, q_b_0, q_b_n0, q_b_1, q_b_n1, q_b_T, q_b_F, q_sg_g, q_sg_sg, q_sg_xs, q_sg_id, q_gu_ne, q_gu_eq, q_g_fne, q_g_cpe, q_w_f, q_v_f, q_u_f, q_fn_f, q_cp_f, q_sg_pg, q_sg_hc, q_lt_t, q_lt_f, q_le_t, q_le_f, q_eq_t, q_eq_f, ne_eq, eq_self, Bool.false_eq_true, Bool.true_eq_false, not_true_eq_false, not_false_eq_true, true_and, and_true, false_and, and_false, true_or, or_true, false_or, or_false, if_true, if_false, Int.reduceAdd, Int.reduceMul, Int.reduceSub, Int.reduceNeg, bB, R_264_0, R_264_13, R_264_17, R_264_30, R_264_33, R_264_42, R_264_46, R_264_52, R_264_59, R_264_67, R_264_77, R_264_81, R_264_88, C_264_39, C_264_74, mm_b]
      rw [u1, show l + 1 + (h' : Int) = l + ((h' + 1 : Nat) : Int) by omega]
    · cases i with
      | zero =>
        show (u 299 (l + ((0 : Nat) : Int))).toInt = x
        rw [(u6 (l + ((0 : Nat) : Int)) (by omega)).1]
        show q_g (q_u (q_u s 299 l x) 300 l (slt n a key)) 299 (l + ((0 : Nat) : Int)) = x
        rw [q_gu_ne (by omega), q_gu_eq (by simp), q_sg_id (by omega) (by omega)]
      | succ i =>
        have := u3 i (by omega)
        rw [show l + 1 + (i : Int) = l + ((i + 1 : Nat) : Int) by omega] at this
        exact this
    · cases i with
      | zero =>
        show (u 300 (l + ((0 : Nat) : Int))).toInt = slt n a key
        rw [(u6 (l + ((0 : Nat) : Int)) (by omega)).2]
        show q_g (q_u (q_u s 299 l x) 300 l (slt n a key)) 300 (l + ((0 : Nat) : Int)) = slt n a key
        rw [q_gu_eq (by simp), q_sg_id (by omega) (by omega)]
      | succ i =>
        have := u4 i (by omega)
        rw [show l + 1 + (i : Int) = l + ((i + 1 : Nat) : Int) by omega] at this
        exact this
    · rw [u5 k z h1 h2, q_u_n (by omega), q_u_n (by omega)]
    · rw [(u6 z (by omega)).1, (u6 z (by omega)).2, q_u_n (by omega), q_u_n (by omega), q_u_n (by omega), q_u_n (by omega)]
      exact ⟨rfl, rfl⟩
theorem mm_seeks (k0 : -2147483648 ≤ key) (k1 : key < 2147483648) (o : Okt t h lo hi) (S : Sub (dM s) N t x) (hr : q_g s 285 26 = x) (hN : N ≤ 240) (hh : h < 16) : ∃ u, EV (d + 1) 264 0 [.ref 285, .int (q_I (key)), .null, .null, .null] [] (q_h L xs s O c) = some (.inl (some (.int (q_I ((h : Int))))), q_h L xs (u) O c) ∧ (∀ i : Nat, i ≤ h → q_g u 299 i = wyn (dM s) key t x i) ∧ (∀ i : Nat, i < h → q_g u 300 i = sln key t i) ∧ ∀ k z, k ≠ 299 → k ≠ 300 → u k z = s k z := by
  obtain ⟨u, u1, u3, u4, u5, u6⟩ := mm_seekL (d := d) (L := L) (xs := xs) (O := O) (c := c) (key := key) k0 k1 x 0 s .null o S.1 (fun y hy => by have := S.2.2 y hy; omega) (by omega) (by omega)
  refine ⟨u, ?_, fun i hi => ?_, fun i hi => ?_, u5⟩
  · rw [R_264_0, hr]
    refine u1.trans ?_
    rw [Int.zero_add]
  · have := u3 i hi
    rw [Int.zero_add] at this
    exact this
  · have := u4 i hi
    rw [Int.zero_add] at this
    exact this
theorem mm_plL (k0' : -2147483648 ≤ key) (k1' : key < 2147483648) (x0 : 2 ≤ x) (x1 : x < 240) (hR : q_g s 295 x = n) (n5 : n ≤ 5) (hA : ∀ k, 0 ≤ k → k < n → q_g s 296 (6 * x + k) = a k) : ∀ (f : Nat) (k : Int), n - k ≤ f → 0 ≤ k → k ≤ n → EV (d + 1) 263 2 [.ref 285, .int (q_I (x)), .int (q_I (key)), .int (q_I (k))] [] (q_h L xs s O c) = EV (d + 1) 263 28 [.ref 285, .int (q_I (x)), .int (q_I (key)), .int (q_I (plF n a key f k))] [] (q_h L xs s O c)
  | 0, k, hf, h0, h1 => by
    unfold plF
    rw [R_263_2 (h0 := by omega) (h1 := by omega)]
    simp (disch := first | omega | exact q_b_01 _) only [↓reduceIte, q_bk0, q_bk1, q_bk2, q_sg_b, q_b_0, q_b_n0, q_b_1, q_b_n1, q_b_T, q_b_F, q_sg_g, q_sg_sg, q_sg_xs, q_sg_id, q_gu_ne, q_gu_eq, q_g_fne, q_g_cpe, q_w_f, q_v_f, q_u_f, q_fn_f, q_cp_f, q_sg_pg, q_sg_hc, q_lt_t, q_lt_f, q_le_t, q_le_f, q_eq_t, q_eq_f, ne_eq, eq_self, Bool.false_eq_true, Bool.true_eq_false, not_true_eq_false, not_false_eq_true, true_and, and_true, false_and, and_false, true_or, or_true, false_or, or_false, if_true, if_false, Int.reduceAdd, Int.reduceMul, Int.reduceSub, Int.reduceNeg, hR, R_263_0, R_263_9, R_263_12, R_263_18, R_263_22, R_263_35, R_263_38, R_263_44, R_263_48, R_263_52, R_263_56, C_263_15, C_263_41]
  | f + 1, k, hf, h0, h1 => by
    unfold plF
    rw [R_263_2 (h0 := by omega) (h1 := by omega)]
    by_cases c1 : k < n
    · have hA1 := hA k h0 c1
      have rg := q_g_rg s 296 (6 * x + k)
      rw [hA1] at rg
      by_cases c2 : a k < key
      · rw [if_pos ⟨c1, c2⟩, ← mm_plL k0' k1' x0 x1 hR n5 hA f (k + 1) (by omega) (by omega) (by omega)]
        simp (disch := first | omega | exact q_b_01 _) only [↓reduceIte, q_bk0, q_bk1, q_bk2, q_sg_b, q_b_0, q_b_n0, q_b_1, q_b_n1, q_b_T, q_b_F, q_sg_g, q_sg_sg, q_sg_xs, q_sg_id, q_gu_ne, q_gu_eq, q_g_fne, q_g_cpe, q_w_f, q_v_f, q_u_f, q_fn_f, q_cp_f, q_sg_pg, q_sg_hc, q_lt_t, q_lt_f, q_le_t, q_le_f, q_eq_t, q_eq_f, ne_eq, eq_self, Bool.false_eq_true, Bool.true_eq_false, not_true_eq_false, not_false_eq_true, true_and, and_true, false_and, and_false, true_or, or_true, false_or, or_false, if_true, if_false, Int.reduceAdd, Int.reduceMul, Int.reduceSub, Int.reduceNeg, hR, hA1, R_263_0, R_263_9, R_263_12, R_263_18, R_263_22, R_263_35, R_263_38, R_263_44, R_263_48, R_263_52, R_263_56, C_263_15, C_263_41, mm_a]
      · rw [if_neg (fun z => c2 z.2)]
        simp (disch := first | omega | exact q_b_01 _) only [↓reduceIte, q_bk0, q_bk1, q_bk2, q_sg_b, q_b_0, q_b_n0, q_b_1, q_b_n1, q_b_T, q_b_F, q_sg_g, q_sg_sg, q_sg_xs, q_sg_id, q_gu_ne, q_gu_eq, q_g_fne, q_g_cpe, q_w_f, q_v_f, q_u_f, q_fn_f, q_cp_f, q_sg_pg, q_sg_hc, q_lt_t, q_lt_f, q_le_t, q_le_f, q_eq_t, q_eq_f, ne_eq, eq_self, Bool.false_eq_true, Bool.true_eq_false, not_true_eq_false, not_false_eq_true, true_and, and_true, false_and, and_false, true_or, or_true, false_or, or_false, if_true, if_false, Int.reduceAdd, Int.reduceMul, Int.reduceSub, Int.reduceNeg, hR, hA1, R_263_0, R_263_9, R_263_12, R_263_18, R_263_22, R_263_35, R_263_38, R_263_44, R_263_48, R_263_52, R_263_56, C_263_15, C_263_41, mm_a]
    · rw [if_neg (fun z => c1 z.1)]
      simp (disch := first | omega | exact q_b_01 _) only [↓reduceIte, q_bk0, q_bk1, q_bk2, q_sg_b, q_b_0, q_b_n0, q_b_1, q_b_n1, q_b_T, q_b_F, q_sg_g, q_sg_sg, q_sg_xs, q_sg_id, q_gu_ne, q_gu_eq, q_g_fne, q_g_cpe, q_w_f, q_v_f, q_u_f, q_fn_f, q_cp_f, q_sg_pg, q_sg_hc, q_lt_t, q_lt_f, q_le_t, q_le_f, q_eq_t, q_eq_f, ne_eq, eq_self, Bool.false_eq_true, Bool.true_eq_false, not_true_eq_false, not_false_eq_true, true_and, and_true, false_and, and_false, true_or, or_true, false_or, or_false, if_true, if_false, Int.reduceAdd, Int.reduceMul, Int.reduceSub, Int.reduceNeg, hR, R_263_0, R_263_9, R_263_12, R_263_18, R_263_22, R_263_35, R_263_38, R_263_44, R_263_48, R_263_52, R_263_56, C_263_15, C_263_41]
theorem mm_placeOf {b : Int → Int} (k0' : -2147483648 ≤ key) (k1' : key < 2147483648) (x0 : 2 ≤ x) (x1 : x < 240) (hR : q_g s 295 x = n) (n0 : 0 ≤ n) (n5 : n ≤ 5) (hA : ∀ k, 0 ≤ k → k < n → q_g s 296 (6 * x + k) = a k) : EV (d + 1) 263 0 [.ref 285, .int (q_I (x)), .int (q_I (key)), .null] [] (q_h L xs s O c) = some (.inl (some (.int (q_I (if hasL key n a b then plz n a key else -plz n a key - 1)))), q_h L xs (s) O c) := by
  have pz := plz_ok (n := n) (a := a) (key := key) n0
  have := mm_plL (d := d) (L := L) (xs := xs) (O := O) (c := c) (s := s) (a := a) k0' k1' x0 x1 hR n5 hA n.toNat 0 (by omega) (by omega) (by omega)
  have e : plF n a key n.toNat 0 = plz n a key := rfl
  rw [e] at this
  rw [R_263_0, this, R_263_28 (h0 := by omega) (h1 := by omega)]
  by_cases c1 : plz n a key < n
  · have hA1 := hA _ pz.1 c1
    have rg := q_g_rg s 296 (6 * x + plz n a key)
    rw [hA1] at rg
    by_cases c2 : a (plz n a key) = key
    · rw [if_pos (show hasL key n a b from ⟨c1, c2⟩)]
      rw [c2] at hA1
      simp (disch := first | omega | exact q_b_01 _) only [↓reduceIte, q_bk0, q_bk1, q_bk2, q_sg_b, q_b_0, q_b_n0, q_b_1, q_b_n1, q_b_T, q_b_F, q_sg_g, q_sg_sg, q_sg_xs, q_sg_id, q_gu_ne, q_gu_eq, q_g_fne, q_g_cpe, q_w_f, q_v_f, q_u_f, q_fn_f, q_cp_f, q_sg_pg, q_sg_hc, q_lt_t, q_lt_f, q_le_t, q_le_f, q_eq_t, q_eq_f, ne_eq, eq_self, Bool.false_eq_true, Bool.true_eq_false, not_true_eq_false, not_false_eq_true, true_and, and_true, false_and, and_false, true_or, or_true, false_or, or_false, if_true, if_false, Int.reduceAdd, Int.reduceMul, Int.reduceSub, Int.reduceNeg, hR, hA1, R_263_0, R_263_9, R_263_12, R_263_18, R_263_22, R_263_35, R_263_38, R_263_44, R_263_48, R_263_52, R_263_56, C_263_15, C_263_41, mm_a]
    · rw [if_neg (show ¬ hasL key n a b from fun z => c2 z.2)]
      simp (disch := first | omega | exact q_b_01 _) only [↓reduceIte, q_bk0, q_bk1, q_bk2, q_sg_b, q_b_0, q_b_n0, q_b_1, q_b_n1, q_b_T, q_b_F, q_sg_g, q_sg_sg, q_sg_xs, q_sg_id, q_gu_ne, q_gu_eq, q_g_fne, q_g_cpe, q_w_f, q_v_f, q_u_f, q_fn_f, q_cp_f, q_sg_pg, q_sg_hc, q_lt_t, q_lt_f, q_le_t, q_le_f, q_eq_t, q_eq_f, ne_eq, eq_self, Bool.false_eq_true, Bool.true_eq_false, not_true_eq_false, not_false_eq_true, true_and, and_true, false_and, and_false, true_or, or_true, false_or, or_false, if_true, if_false, Int.reduceAdd, Int.reduceMul, Int.reduceSub, Int.reduceNeg, hR, hA1, c2, R_263_0, R_263_9, R_263_12, R_263_18, R_263_22, R_263_35, R_263_38, R_263_44, R_263_48, R_263_52, R_263_56, C_263_15, C_263_41, mm_a]
  · rw [if_neg (show ¬ hasL key n a b from fun z => c1 z.1)]
    simp (disch := first | omega | exact q_b_01 _) only [↓reduceIte, q_bk0, q_bk1, q_bk2, q_sg_b, q_b_0, q_b_n0, q_b_1, q_b_n1, q_b_T, q_b_F, q_sg_g, q_sg_sg, q_sg_xs, q_sg_id, q_gu_ne, q_gu_eq, q_g_fne, q_g_cpe, q_w_f, q_v_f, q_u_f, q_fn_f, q_cp_f, q_sg_pg, q_sg_hc, q_lt_t, q_lt_f, q_le_t, q_le_f, q_eq_t, q_eq_f, ne_eq, eq_self, Bool.false_eq_true, Bool.true_eq_false, not_true_eq_false, not_false_eq_true, true_and, and_true, false_and, and_false, true_or, or_true, false_or, or_false, if_true, if_false, Int.reduceAdd, Int.reduceMul, Int.reduceSub, Int.reduceNeg, hR, R_263_0, R_263_9, R_263_12, R_263_18, R_263_22, R_263_35, R_263_38, R_263_44, R_263_48, R_263_52, R_263_56, C_263_15, C_263_41]
end MSK
