/-! THE LEAF of a key, and the class's places in it -/
section CLF
variable {d L : Nat} {xs : Nat → Int32} {s s0 s1 u : Nat → Int → Int32} {O : Nat → Int64} {c : Bool × Nat × Nat} {D D0 D' : Ar} {N N0 x y j l p n key : Int} {a b : Int → Int} {g : Int → (Int → Int) → (Int → Int) → Tr}
/-- the leaf, where the way ends -/
theorem leaf_at : ∀ {t : Tr} {h : Nat} {lo hi x : Int}, Okt t h lo hi → Sub D N t x → ∃ p n a b lo' hi', Sub D N (.lf p n a b) (wyn D key t x h) ∧ 1 ≤ n ∧ n ≤ 4 ∧ OkL n a b lo' hi' ∧ (∀ Q, atL key Q t ↔ Q n a b) ∧ valK key t = b (plz n a key) ∧ (∀ g D0 N0 D' N', LC D0 N0 key g D' N' t x → D0 = D → Chd D N0 (.lf p n a b) (wyn D key t x h) D' N' (g n a b) (wyn D key t x h)) ∧ (∀ g N0 D' N', Chd D N0 (.lf p n a b) (wyn D key t x h) D' N' (g n a b) (wyn D key t x h) → LC D N0 key g D' N' t x) ∧ (FWy key t → p = -1) ∧ leaf key t = .lf p n a b := by
  intro t
  induction t using Tr_rc with
  | lf p n a b =>
    try dsimp only [Okt_e1, Okt_e2, atL_e1, atL_e2, FWy_e1, FWy_e2, LC_e1, LC_e2] at *
    rintro h lo hi x ⟨e, n0, n1, o⟩ S
    subst e
    exact ⟨p, n, a, b, lo, hi, S, n0, n1, o, fun Q => Iff.rfl, rfl, fun g D0 N0 D' N' hL e => by subst e; exact hL, fun g N0 D' N' h => h, fun h => h, rfl⟩
  | br p n a cc ih =>
    try dsimp only [Okt_e1, Okt_e2, atL_e1, atL_e2, FWy_e1, FWy_e2, LC_e1, LC_e2] at *
    rintro h lo hi x ⟨h', e, n0, n1, r⟩ S
    subst e
    obtain ⟨s0, s1, s2, s3⟩ := slt_ok (n := n) (a := a) (key := key) n0
    obtain ⟨p', n', a', b', lo', hi', q1, q2, q3, q4, q5, q6, q7, q8, q9, q10⟩ := ih _ (r _ s0 s1).2.2 (Sub_kid S s0 s1)
    try dsimp only [Okt_e1, Okt_e2, atL_e1, atL_e2, FWy_e1, FWy_e2, LC_e1, LC_e2]
    refine ⟨p', n', a', b', lo', hi', q1, q2, q3, q4, q5, q6, fun g D0 N0 D' N' hL e => ?_, q8, fun h => q9 h.2, q10⟩
    subst e
    exact q7 g _ N0 D' N' hL rfl
/-- the leaf of a tree whose way is new -/
theorem leaf_ren : ∀ {t : Tr} {p n : Int} {a b : Int → Int}, leaf key t = .lf p n a b → leaf key (ren key t) = .lf (-1) n a b := by
  intro t
  induction t using Tr_rc with
  | lf p' n' a' b' =>
    intro p n a b e
    obtain ⟨e1, e2, e3, e4⟩ := Tr_lf_inj (show Tr.lf p' n' a' b' = .lf p n a b from e)
    subst e1
    subst e2
    subst e3
    subst e4
    rfl
  | br p' n' a' cc ih =>
    intro p n a b e
    try simp only [ren_e1, ren_e2, leaf_e1, leaf_e2]
    rw [up_eq rfl]
    exact ih _ e
/-- the way of a tree whose way is new is the same -/
theorem wyn_ren (e : ∀ y, D'.B y = D.B y) : ∀ {t : Tr} {x : Int} (i : Nat), wyn D' key (ren key t) x i = wyn D key t x i ∧ sln key (ren key t) i = sln key t i := by
  intro t
  induction t using Tr_rc with
  | lf p n a b =>
    exact fun i => ⟨rfl, rfl⟩
  | br p n a cc ih =>
    intro x i
    cases i with
    | zero => exact ⟨rfl, rfl⟩
    | succ i =>
      have := ih (slt n a key) (x := D.B x (slt n a key)) i
      try simp only [ren_e1, ren_e2, wyn_e1, wyn_e2, sln_e1, sln_e2]
      rw [up_eq rfl, e x]
      exact this
theorem cc_plL {n : Int} {a : Int → Int} (k0' : -2147483648 ≤ key) (k1' : key < 2147483648) (x0 : 2 ≤ x) (x1 : x < 176) (hR : q_g s 244 x = n) (n5 : n ≤ 5) (hA : ∀ k, 0 ≤ k → k < n → q_g s 245 (6 * x + k) = a k) : ∀ (f : Nat) (k : Int), n - k ≤ f → 0 ≤ k → k ≤ n → EV (d) 49 12 [.ref 242, .int (q_I (x)), .int (q_I (key)), .int (q_I (k))] [] (q_h L xs s O c) = some (.inl (some (.int (q_I (plF n a key f k)))), q_h L xs (s) O c)
  | 0, k, hf, h0, h1 => by
    unfold plF
    rw [R_49_12 (h0 := by omega) (h1 := by omega)]
    simp (disch := first | omega | exact q_b_01 _) only [↓reduceIte, q_bk0, q_bk1, q_bk2, q_sg_b, q_b_0, q_b_n0, q_b_1, q_b_n1, q_b_T, q_b_F, q_sg_g, q_sg_sg, q_sg_xs, q_sg_id, q_gu_ne, q_gu_eq, q_g_fne, q_g_cpe, q_w_f, q_v_f, q_u_f, q_fn_f, q_cp_f, q_sg_pg, q_sg_hc, q_lt_t, q_lt_f, q_le_t, q_le_f, q_eq_t, q_eq_f, ne_eq, eq_self, Bool.false_eq_true, Bool.true_eq_false, not_true_eq_false, not_false_eq_true, true_and, and_true, false_and, and_false, true_or, or_true, false_or, or_false, if_true, if_false, Int.reduceAdd, Int.reduceMul, Int.reduceSub, Int.reduceNeg, hR, R_49_0, R_49_5, R_49_8, R_49_10, R_49_19, R_49_22, R_49_28, R_49_39, R_49_43, R_49_49, C_49_2]
  | f + 1, k, hf, h0, h1 => by
    unfold plF
    rw [R_49_12 (h0 := by omega) (h1 := by omega)]
    by_cases c1 : k < n
    · have hA1 := hA k h0 c1
      have rg := q_g_rg s 245 (6 * x + k)
      rw [hA1] at rg
      have hA2 : q_g s 245 (x * 6 + k) = a k := by rw [show x * 6 + k = 6 * x + k by omega, hA1]
      by_cases c2 : a k < key
      · rw [if_pos ⟨c1, c2⟩, ← cc_plL k0' k1' x0 x1 hR n5 hA f (k + 1) (by omega) (by omega) (by omega)]
        simp (disch := first | omega | exact q_b_01 _) only [↓reduceIte, q_bk0, q_bk1, q_bk2, q_sg_b, q_b_0, q_b_n0, q_b_1, q_b_n1, q_b_T, q_b_F, q_sg_g, q_sg_sg, q_sg_xs, q_sg_id, q_gu_ne, q_gu_eq, q_g_fne, q_g_cpe, q_w_f, q_v_f, q_u_f, q_fn_f, q_cp_f, q_sg_pg, q_sg_hc, q_lt_t, q_lt_f, q_le_t, q_le_f, q_eq_t, q_eq_f, ne_eq, eq_self, Bool.false_eq_true, Bool.true_eq_false, not_true_eq_false, not_false_eq_true, true_and, and_true, false_and, and_false, true_or, or_true, false_or, or_false, if_true, if_false, Int.reduceAdd, Int.reduceMul, Int.reduceSub, Int.reduceNeg, hR, hA2, R_49_0, R_49_5, R_49_8, R_49_10, R_49_19, R_49_22, R_49_28, R_49_39, R_49_43, R_49_49, C_49_2]
      · rw [if_neg (fun z => c2 z.2)]
        simp (disch := first | omega | exact q_b_01 _) only [↓reduceIte, q_bk0, q_bk1, q_bk2, q_sg_b, q_b_0, q_b_n0, q_b_1, q_b_n1, q_b_T, q_b_F, q_sg_g, q_sg_sg, q_sg_xs, q_sg_id, q_gu_ne, q_gu_eq, q_g_fne, q_g_cpe, q_w_f, q_v_f, q_u_f, q_fn_f, q_cp_f, q_sg_pg, q_sg_hc, q_lt_t, q_lt_f, q_le_t, q_le_f, q_eq_t, q_eq_f, ne_eq, eq_self, Bool.false_eq_true, Bool.true_eq_false, not_true_eq_false, not_false_eq_true, true_and, and_true, false_and, and_false, true_or, or_true, false_or, or_false, if_true, if_false, Int.reduceAdd, Int.reduceMul, Int.reduceSub, Int.reduceNeg, hR, hA2, R_49_0, R_49_5, R_49_8, R_49_10, R_49_19, R_49_22, R_49_28, R_49_39, R_49_43, R_49_49, C_49_2]
    · rw [if_neg (fun z => c1 z.1)]
      simp (disch := first | omega | exact q_b_01 _) only [↓reduceIte, q_bk0, q_bk1, q_bk2, q_sg_b, q_b_0, q_b_n0, q_b_1, q_b_n1, q_b_T, q_b_F, q_sg_g, q_sg_sg, q_sg_xs, q_sg_id, q_gu_ne, q_gu_eq, q_g_fne, q_g_cpe, q_w_f, q_v_f, q_u_f, q_fn_f, q_cp_f, q_sg_pg, q_sg_hc, q_lt_t, q_lt_f, q_le_t, q_le_f, q_eq_t, q_eq_f, ne_eq, eq_self, Bool.false_eq_true, Bool.true_eq_false, not_true_eq_false, not_false_eq_true, true_and, and_true, false_and, and_false, true_or, or_true, false_or, or_false, if_true, if_false, Int.reduceAdd, Int.reduceMul, Int.reduceSub, Int.reduceNeg, hR, R_49_0, R_49_5, R_49_8, R_49_10, R_49_19, R_49_22, R_49_28, R_49_39, R_49_43, R_49_49, C_49_2]
theorem cc_placeOf (k0' : -2147483648 ≤ key) (k1' : key < 2147483648) (h9 : q_g s 242 9 = N) (x0 : 2 ≤ x) (xN : x < N) (x1 : x < 176) (hR : q_g s 244 x = n) (n0 : 0 ≤ n) (n5 : n ≤ 5) (hA : ∀ k, 0 ≤ k → k < n → q_g s 245 (6 * x + k) = a k) : EV (d + 1) 49 0 [.ref 242, .int (q_I (x)), .int (q_I (key)), .null] [] (q_h L xs s O c) = some (.inl (some (.int (q_I (plz n a key)))), q_h L xs (s) O c) := by
  have isn := cc_isNode (d := d) (L := L) (xs := xs) (O := O) (c := c) (s := s) (x := x) h9
  rw [q_sg_id (by omega) (by omega), q_bt ⟨by omega, by omega, by omega⟩] at isn
  have := cc_plL (d := d + 1) (L := L) (xs := xs) (O := O) (c := c) (s := s) (a := a) k0' k1' x0 x1 hR n5 hA n.toNat 0 (by omega) (by omega) (by omega)
  simp (disch := first | omega | exact q_b_01 _) only [↓reduceIte, q_bk0, q_bk1, q_bk2, q_sg_b, q_b_0, q_b_n0, q_b_1, q_b_n1, q_b_T, q_b_F, q_sg_g, q_sg_sg, q_sg_xs, q_sg_id, q_gu_ne, q_gu_eq, q_g_fne, q_g_cpe, q_w_f, q_v_f, q_u_f, q_fn_f, q_cp_f, q_sg_pg, q_sg_hc, q_lt_t, q_lt_f, q_le_t, q_le_f, q_eq_t, q_eq_f, ne_eq, eq_self, Bool.false_eq_true, Bool.true_eq_false, not_true_eq_false, not_false_eq_true, true_and, and_true, false_and, and_false, true_or, or_true, false_or, or_false, if_true, if_false, Int.reduceAdd, Int.reduceMul, Int.reduceSub, Int.reduceNeg, isn, R_49_0, R_49_5, R_49_8, R_49_10, R_49_19, R_49_22, R_49_28, R_49_39, R_49_43, R_49_49, C_49_2]
  exact this
theorem cc_hasAt {k : Int} (k0' : -2147483648 ≤ key) (k1' : key < 2147483648) (h9 : q_g s 242 9 = N) (x0 : 2 ≤ x) (xN : x < N) (x1 : x < 176) (hR : q_g s 244 x = n) (n5 : n ≤ 5) (z0 : 0 ≤ k) (z1 : k ≤ n) (hA : ∀ k, 0 ≤ k → k < n → q_g s 245 (6 * x + k) = a k) : EV (d + 1) 50 0 [.ref 242, .int (q_I (x)), .int (q_I (k)), .int (q_I (key))] [] (q_h L xs s O c) = some (.inl (some (.int (q_I (q_b (k < n ∧ a k = key))))), q_h L xs (s) O c) := by
  have isn := cc_isNode (d := d) (L := L) (xs := xs) (O := O) (c := c) (s := s) (x := x) h9
  rw [q_sg_id (by omega) (by omega), q_bt ⟨by omega, by omega, by omega⟩] at isn
  by_cases c1 : k < n
  · have hA1 := hA k z0 c1
    have rg := q_g_rg s 245 (6 * x + k)
    rw [hA1] at rg
    have hA2 : q_g s 245 (x * 6 + k) = a k := by rw [show x * 6 + k = 6 * x + k by omega, hA1]
    by_cases c2 : a k = key
    · rw [q_bt ⟨c1, c2⟩]
      rw [c2] at hA2
      simp (disch := first | omega | exact q_b_01 _) only [↓reduceIte, q_bk0, q_bk1, q_bk2, q_sg_b, q_b_0, q_b_n0, q_b_1, q_b_n1, q_b_T, q_b_F, q_sg_g, q_sg_sg, q_sg_xs, q_sg_id, q_gu_ne, q_gu_eq, q_g_fne, q_g_cpe, q_w_f, q_v_f, q_u_f, q_fn_f, q_cp_f, q_sg_pg, q_sg_hc, q_lt_t, q_lt_f, q_le_t, q_le_f, q_eq_t, q_eq_f, ne_eq, eq_self, Bool.false_eq_true, Bool.true_eq_false, not_true_eq_false, not_false_eq_true, true_and, and_true, false_and, and_false, true_or, or_true, false_or, or_false, if_true, if_false, Int.reduceAdd, Int.reduceMul, Int.reduceSub, Int.reduceNeg, isn, hR, hA2, R_50_0, R_50_5, R_50_8, R_50_15, R_50_18, R_50_24, R_50_35, R_50_39, R_50_43, R_50_44, C_50_2]
    · rw [q_bf (fun z => c2 z.2)]
      simp (disch := first | omega | exact q_b_01 _) only [↓reduceIte, q_bk0, q_bk1, q_bk2, q_sg_b, q_b_0, q_b_n0, q_b_1, q_b_n1, q_b_T, q_b_F, q_sg_g, q_sg_sg, q_sg_xs, q_sg_id, q_gu_ne, q_gu_eq, q_g_fne, q_g_cpe, q_w_f, q_v_f, q_u_f, q_fn_f, q_cp_f, q_sg_pg, q_sg_hc, q_lt_t, q_lt_f, q_le_t, q_le_f, q_eq_t, q_eq_f, ne_eq, eq_self, Bool.false_eq_true, Bool.true_eq_false, not_true_eq_false, not_false_eq_true, true_and, and_true, false_and, and_false, true_or, or_true, false_or, or_false, if_true, if_false, Int.reduceAdd, Int.reduceMul, Int.reduceSub, Int.reduceNeg, isn, hR, hA2, c2, R_50_0, R_50_5, R_50_8, R_50_15, R_50_18, R_50_24, R_50_35, R_50_39, R_50_43, R_50_44, C_50_2]
  · rw [q_bf (fun z => c1 z.1)]
    simp (disch := first | omega | exact q_b_01 _) only [↓reduceIte, q_bk0, q_bk1, q_bk2, q_sg_b, q_b_0, q_b_n0, q_b_1, q_b_n1, q_b_T, q_b_F, q_sg_g, q_sg_sg, q_sg_xs, q_sg_id, q_gu_ne, q_gu_eq, q_g_fne, q_g_cpe, q_w_f, q_v_f, q_u_f, q_fn_f, q_cp_f, q_sg_pg, q_sg_hc, q_lt_t, q_lt_f, q_le_t, q_le_f, q_eq_t, q_eq_f, ne_eq, eq_self, Bool.false_eq_true, Bool.true_eq_false, not_true_eq_false, not_false_eq_true, true_and, and_true, false_and, and_false, true_or, or_true, false_or, or_false, if_true, if_false, Int.reduceAdd, Int.reduceMul, Int.reduceSub, Int.reduceNeg, isn, hR, R_50_0, R_50_5, R_50_8, R_50_15, R_50_18, R_50_24, R_50_35, R_50_39, R_50_43, R_50_44, C_50_2]
end CLF
