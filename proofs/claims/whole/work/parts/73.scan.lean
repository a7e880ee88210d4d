/-! THE CLASS: a text taken apart -/
section SCN
variable {d L : Nat} {xs : Nat → Int32} {s : Nat → Int → Int32} {O : Nat → Int64} {c : Bool × Nat × Nat} {T : Int → Int} {E : Int}
theorem cc_runL {lo hi fr : Int} (hE : q_g s 2 1 = E) (E1 : E ≤ 400) (hT : ∀ j, 0 ≤ j → j < E → q_g s 3 j = T j) (l0 : 0 ≤ lo) (l1 : lo < 1000) (h0 : 0 ≤ hi) (h1 : hi < 1000) : ∀ (n : Nat) {i : Int}, E - i ≤ n → 0 ≤ i → i ≤ E → EV (d) 114 3 [.ref 2, .int (q_I (fr)), .int (q_I (lo)), .int (q_I (hi)), .int (q_I (i))] [] (q_h L xs s O c) = some (.inl (some (.int (q_I (run lo hi T E i)))), q_h L xs (s) O c)
  | 0, i, hn, i0, i1 => by
    rw [R_114_3, run_no (by omega)]
    simp (disch := first | omega | exact q_b_01 _) only [↓reduceIte, q_bk0, q_bk1, q_bk2, q_sg_b, q_b_0, q_b_n0, q_b_1, q_b_n1, q_b_T, q_b_F, q_sg_g, q_sg_sg, q_sg_xs, q_sg_id, q_gu_ne, q_gu_eq, q_g_fne, q_g_cpe, q_w_f, q_v_f, q_u_f, q_fn_f, q_cp_f, q_sg_pg, q_sg_hc, q_lt_t, q_lt_f, q_le_t, q_le_f, q_eq_t, q_eq_f, ne_eq, eq_self, Bool.false_eq_true, Bool.true_eq_false, not_true_eq_false, not_false_eq_true, true_and, and_true, false_and, and_false, true_or, or_true, false_or, or_false, if_true, if_false, Int.reduceAdd, Int.reduceMul, Int.reduceSub, Int.reduceNeg, hE, R_114_0, R_114_12, R_114_19, R_114_23, R_114_30, R_114_34, R_114_40]
  | n + 1, i, hn, i0, i1 => by
    rw [R_114_3]
    by_cases c1 : i < E
    · have t := hT i i0 c1
      have r := q_g_rg s 3 i
      rw [t] at r
      by_cases c2 : lo ≤ T i
      · by_cases c3 : T i ≤ hi
        · have ih := cc_runL hE E1 hT l0 l1 h0 h1 n (i := i + 1) (by omega) (by omega) (by omega) (lo := lo) (hi := hi) (fr := fr)
          rw [run_yes c1 c2 c3]
          simp (disch := first | omega | exact q_b_01 _) only [↓reduceIte, q_bk0, q_bk1, q_bk2, q_sg_b, q_b_0, q_b_n0, q_b_1, q_b_n1, q_b_T, q_b_F, q_sg_g, q_sg_sg, q_sg_xs, q_sg_id, q_gu_ne, q_gu_eq, q_g_fne, q_g_cpe, q_w_f, q_v_f, q_u_f, q_fn_f, q_cp_f, q_sg_pg, q_sg_hc, q_lt_t, q_lt_f, q_le_t, q_le_f, q_eq_t, q_eq_f, ne_eq, eq_self, Bool.false_eq_true, Bool.true_eq_false, not_true_eq_false, not_false_eq_true, true_and, and_true, false_and, and_false, true_or, or_true, false_or, or_false, if_true, if_false, Int.reduceAdd, Int.reduceMul, Int.reduceSub, Int.reduceNeg, hE, t, R_114_0, R_114_12, R_114_19, R_114_23, R_114_30, R_114_34, R_114_40, ih]
        · rw [run_no (by omega)]
          simp (disch := first | omega | exact q_b_01 _) only [↓reduceIte, q_bk0, q_bk1, q_bk2, q_sg_b, q_b_0, q_b_n0, q_b_1, q_b_n1, q_b_T, q_b_F, q_sg_g, q_sg_sg, q_sg_xs, q_sg_id, q_gu_ne, q_gu_eq, q_g_fne, q_g_cpe, q_w_f, q_v_f, q_u_f, q_fn_f, q_cp_f, q_sg_pg, q_sg_hc, q_lt_t, q_lt_f, q_le_t, q_le_f, q_eq_t, q_eq_f, ne_eq, eq_self, Bool.false_eq_true, Bool.true_eq_false, not_true_eq_false, not_false_eq_true, true_and, and_true, false_and, and_false, true_or, or_true, false_or, or_false, if_true, if_false, Int.reduceAdd, Int.reduceMul, Int.reduceSub, Int.reduceNeg, hE, t, R_114_0, R_114_12, R_114_19, R_114_23, R_114_30, R_114_34, R_114_40]
      · rw [run_no (by omega)]
        simp (disch := first | omega | exact q_b_01 _) only [↓reduceIte, q_bk0, q_bk1, q_bk2, q_sg_b, q_b_0, q_b_n0, q_b_1, q_b_n1, q_b_T, q_b_F, q_sg_g, q_sg_sg, q_sg_xs, q_sg_id, q_gu_ne, q_gu_eq, q_g_fne, q_g_cpe, q_w_f, q_v_f, q_u_f, q_fn_f, q_cp_f, q_sg_pg, q_sg_hc, q_lt_t, q_lt_f, q_le_t, q_le_f, q_eq_t, q_eq_f, ne_eq, eq_self, Bool.false_eq_true, Bool.true_eq_false, not_true_eq_false, not_false_eq_true, true_and, and_true, false_and, and_false, true_or, or_true, false_or, or_false, if_true, if_false, Int.reduceAdd, Int.reduceMul, Int.reduceSub, Int.reduceNeg, hE, t, R_114_0, R_114_12, R_114_19, R_114_23, R_114_30, R_114_34, R_114_40]
    · rw [run_no (by omega)]
      simp (disch := first | omega | exact q_b_01 _) only [↓reduceIte, q_bk0, q_bk1, q_bk2, q_sg_b, q_b_0, q_b_n0, q_b_1, q_b_n1, q_b_T, q_b_F, q_sg_g, q_sg_sg, q_sg_xs, q_sg_id, q_gu_ne, q_gu_eq, q_g_fne, q_g_cpe, q_w_f, q_v_f, q_u_f, q_fn_f, q_cp_f, q_sg_pg, q_sg_hc, q_lt_t, q_lt_f, q_le_t, q_le_f, q_eq_t, q_eq_f, ne_eq, eq_self, Bool.false_eq_true, Bool.true_eq_false, not_true_eq_false, not_false_eq_true, true_and, and_true, false_and, and_false, true_or, or_true, false_or, or_false, if_true, if_false, Int.reduceAdd, Int.reduceMul, Int.reduceSub, Int.reduceNeg, hE, R_114_0, R_114_12, R_114_19, R_114_23, R_114_30, R_114_34, R_114_40]
theorem cc_endOfRun {lo hi i : Int} (hE : q_g s 2 1 = E) (E1 : E ≤ 400) (hT : ∀ j, 0 ≤ j → j < E → q_g s 3 j = T j) (l0 : 0 ≤ lo) (l1 : lo < 1000) (h0 : 0 ≤ hi) (h1 : hi < 1000) (i0 : 0 ≤ i) (i1 : i ≤ E) : EV (d) 114 0 [.ref 2, .int (q_I (i)), .int (q_I (lo)), .int (q_I (hi)), .null] [] (q_h L xs s O c) = some (.inl (some (.int (q_I (run lo hi T E i)))), q_h L xs (s) O c) := by
  simp (disch := first | omega | exact q_b_01 _) only [↓reduceIte, q_bk0, q_bk1, q_bk2, q_sg_b, q_b_0, q_b_n0, q_b_1, q_b_n1, q_b_T, q_b_F, q_sg_g, q_sg_sg, q_sg_xs, q_sg_id, q_gu_ne, q_gu_eq, q_g_fne, q_g_cpe, q_w_f, q_v_f, q_u_f, q_fn_f, q_cp_f, q_sg_pg, q_sg_hc, q_lt_t, q_lt_f, q_le_t, q_le_f, q_eq_t, q_eq_f, ne_eq, eq_self, Bool.false_eq_true, Bool.true_eq_false, not_true_eq_false, not_false_eq_true, true_and, and_true, false_and, and_false, true_or, or_true, false_or, or_false, if_true, if_false, Int.reduceAdd, Int.reduceMul, Int.reduceSub, Int.reduceNeg, R_114_0, R_114_12, R_114_19, R_114_23, R_114_30, R_114_34, R_114_40]
  exact cc_runL hE E1 hT l0 l1 h0 h1 (E - i).toNat (by omega) i0 i1
theorem cc_numberAt {b e : Int} (b0 : 0 ≤ b) (be : b ≤ e) (e1 : e ≤ 400) (hT : ∀ j, b ≤ j → j < e → q_g s 3 j = T j) : EV (d) 115 0 [.ref 2, .int (q_I (b)), .int (q_I (e)), .null, .null] [] (q_h L xs s O c) = some (.inl (some (.int (q_I (nv T b (e - b).toNat)))), q_h L xs (s) O c) := by
  simp (disch := first | omega | exact q_b_01 _) only [↓reduceIte, q_bk0, q_bk1, q_bk2, q_sg_b, q_b_0, q_b_n0, q_b_1, q_b_n1, q_b_T, q_b_F, q_sg_g, q_sg_sg, q_sg_xs, q_sg_id, q_gu_ne, q_gu_eq, q_g_fne, q_g_cpe, q_w_f, q_v_f, q_u_f, q_fn_f, q_cp_f, q_sg_pg, q_sg_hc, q_lt_t, q_lt_f, q_le_t, q_le_f, q_eq_t, q_eq_f, ne_eq, eq_self, Bool.false_eq_true, Bool.true_eq_false, not_true_eq_false, not_false_eq_true, true_and, and_true, false_and, and_false, true_or, or_true, false_or, or_false, if_true, if_false, Int.reduceAdd, Int.reduceMul, Int.reduceSub, Int.reduceNeg, R_115_0, R_115_11, R_115_22, R_115_33]
  obtain ⟨x, f1, f2⟩ := q_for (fun j x => EV (d) 115 5 [.ref 2, .int (q_I (b)), .int (q_I (e)), .int (q_I (x)), .int (q_I (j))] [] (q_h L xs s O c)) (fun j x => x = nv T b (j - b).toNat) (lo := b) (hi := e) be (fun j x a1 a2 ex => by
    have t := hT j a1 a2
    refine ⟨10 * x + T j - 48, ?_, ?_⟩
    · rw [R_115_5]
      simp (disch := first | omega | exact q_b_01 _) only [↓reduceIte, q_bk0, q_bk1, q_bk2, q_sg_b, q_b_0, q_b_n0, q_b_1, q_b_n1, q_b_T, q_b_F, q_sg_g, q_sg_sg, q_sg_xs, q_sg_id, q_gu_ne, q_gu_eq, q_g_fne, q_g_cpe, q_w_f, q_v_f, q_u_f, q_fn_f, q_cp_f, q_sg_pg, q_sg_hc, q_lt_t, q_lt_f, q_le_t, q_le_f, q_eq_t, q_eq_f, ne_eq, eq_self, Bool.false_eq_true, Bool.true_eq_false, not_true_eq_false, not_false_eq_true, true_and, and_true, false_and, and_false, true_or, or_true, false_or, or_false, if_true, if_false, Int.reduceAdd, Int.reduceMul, Int.reduceSub, Int.reduceNeg, t, R_115_0, R_115_11, R_115_22, R_115_33]
    · rw [show (j + 1 - b).toNat = (j - b).toNat + 1 by omega]
      show _ = 10 * nv T b (j - b).toNat + T (b + ((j - b).toNat : Nat)) - 48
      rw [← ex, show b + (((j - b).toNat : Nat) : Int) = j by omega]) (t := 0) (by rw [Int.sub_self]; rfl)
  refine Eq.trans f1 ?_
  rw [R_115_5, f2]
  simp (disch := first | omega | exact q_b_01 _) only [↓reduceIte, q_bk0, q_bk1, q_bk2, q_sg_b, q_b_0, q_b_n0, q_b_1, q_b_n1, q_b_T, q_b_F, q_sg_g, q_sg_sg, q_sg_xs, q_sg_id, q_gu_ne, q_gu_eq, q_g_fne, q_g_cpe, q_w_f, q_v_f, q_u_f, q_fn_f, q_cp_f, q_sg_pg, q_sg_hc, q_lt_t, q_lt_f, q_le_t, q_le_f, q_eq_t, q_eq_f, ne_eq, eq_self, Bool.false_eq_true, Bool.true_eq_false, not_true_eq_false, not_false_eq_true, true_and, and_true, false_and, and_false, true_or, or_true, false_or, or_false, if_true, if_false, Int.reduceAdd, Int.reduceMul, Int.reduceSub, Int.reduceNeg, R_115_0, R_115_11, R_115_22, R_115_33]
theorem nv_rg {b : Int} : ∀ n : Nat, (∀ j, b ≤ j → j < b + n → 48 ≤ T j ∧ T j ≤ 57) → 0 ≤ nv T b n ∧ nv T b n < 10 ^ n
  | 0, _ => by
    show (0 : Int) ≤ 0 ∧ (0 : Int) < 1
    omega
  | n + 1, h => by
    have ih := nv_rg n (fun j h1 h2 => h j h1 (by omega))
    have := h (b + n) (by omega) (by omega)
    show 0 ≤ 10 * nv T b n + T (b + n) - 48 ∧ 10 * nv T b n + T (b + n) - 48 < 10 ^ (n + 1)
    rw [Int.pow_succ]
    generalize (10 : Int) ^ n = x at *
    omega
theorem cc_scanThing {cnt b : Int} (hE : q_g s 2 1 = E) (E1 : E ≤ 400) (hT : ∀ j, 0 ≤ j → j < E → q_g s 3 j = T j) (c0 : 0 ≤ cnt) (c1 : cnt ≤ 400) (b0 : 0 ≤ b) (b1 : b < E) : EV (d + 10) 113 0 [.ref 2, .int (q_I (cnt)), .int (q_I (b)), .null] [] (q_h L xs s O c) = some (.inl (some (.int (q_I (tend T E b)))), q_h L xs (q_u (q_u s 4 cnt (thg T E b)) 6 cnt (tel T E b)) O c) := by
  have g1 := run_ge 97 122 T E b
  have g2 := run_ge 48 57 T E b
  have l1 := run_le (lo := 97) (hi := 122) (T := T) (E := E) (i := b) (by omega)
  have l2 := run_le (lo := 48) (hi := 57) (T := T) (E := E) (i := b) (by omega)
  unfold tend thg tel
  have hb : ¬ E ≤ b := by omega
  simp only [if_neg hb]
  by_cases w1 : b < run 97 122 T E b
  · simp only [if_pos w1]
    have hw := cc_wordAt (d := d) (L := L) (xs := xs) (s := q_u s 4 cnt 1) (O := O) (c := c) (T := T) b0 w1 (by omega) (fun j h1 h2 => by rw [q_gu_ne (by omega)]; exact hT j (by omega) (by omega))
    simp (disch := first | omega | exact q_b_01 _) only [↓reduceIte, q_bk0, q_bk1, q_bk2, q_sg_b, q_b_0, q_b_n0, q_b_1, q_b_n1, q_b_T, q_b_F, q_sg_g, q_sg_sg, q_sg_xs, q_sg_id, q_gu_ne, q_gu_eq, q_g_fne, q_g_cpe, q_w_f, q_v_f, q_u_f, q_fn_f, q_cp_f, q_sg_pg, q_sg_hc, q_lt_t, q_lt_f, q_le_t, q_le_f, q_eq_t, q_eq_f, ne_eq, eq_self, Bool.false_eq_true, Bool.true_eq_false, not_true_eq_false, not_false_eq_true, true_and, and_true, false_and, and_false, true_or, or_true, false_or, or_false, if_true, if_false, Int.reduceAdd, Int.reduceMul, Int.reduceSub, Int.reduceNeg, R_113_0, R_113_9, R_113_15, R_113_22, R_113_33, R_113_34, R_113_36, R_113_45, R_113_51, R_113_58, R_113_70, R_113_74, R_113_80, R_113_81, R_113_83, R_113_90, R_113_101, R_113_102, C_113_6, C_113_30, C_113_42, C_113_77, cc_endOfRun hE E1 hT, hw]
  · simp only [if_neg w1]
    by_cases w2 : b < run 48 57 T E b
    · simp only [if_pos w2]
      have hw := cc_numberAt (d := d + 9) (L := L) (xs := xs) (s := q_u s 4 cnt 2) (O := O) (c := c) (T := T) (b := b) (e := run 48 57 T E b) b0 (by omega) (by omega) (fun j h1 h2 => by rw [q_gu_ne (by omega)]; exact hT j (by omega) (by omega))
      by_cases w3 : 3 < run 48 57 T E b - b
      · simp (disch := first | omega | exact q_b_01 _) only [↓reduceIte, q_bk0, q_bk1, q_bk2, q_sg_b, q_b_0, q_b_n0, q_b_1, q_b_n1, q_b_T, q_b_F, q_sg_g, q_sg_sg, q_sg_xs, q_sg_id, q_gu_ne, q_gu_eq, q_g_fne, q_g_cpe, q_w_f, q_v_f, q_u_f, q_fn_f, q_cp_f, q_sg_pg, q_sg_hc, q_lt_t, q_lt_f, q_le_t, q_le_f, q_eq_t, q_eq_f, ne_eq, eq_self, Bool.false_eq_true, Bool.true_eq_false, not_true_eq_false, not_false_eq_true, true_and, and_true, false_and, and_false, true_or, or_true, false_or, or_false, if_true, if_false, Int.reduceAdd, Int.reduceMul, Int.reduceSub, Int.reduceNeg, R_113_0, R_113_9, R_113_15, R_113_22, R_113_33, R_113_34, R_113_36, R_113_45, R_113_51, R_113_58, R_113_70, R_113_74, R_113_80, R_113_81, R_113_83, R_113_90, R_113_101, R_113_102, C_113_6, C_113_30, C_113_42, C_113_77, cc_endOfRun hE E1 hT]
      · simp (disch := first | omega | exact q_b_01 _) only [↓reduceIte, q_bk0, q_bk1, q_bk2, q_sg_b, q_b_0, q_b_n0, q_b_1, q_b_n1, q_b_T, q_b_F, q_sg_g, q_sg_sg, q_sg_xs, q_sg_id, q_gu_ne, q_gu_eq, q_g_fne, q_g_cpe, q_w_f, q_v_f, q_u_f, q_fn_f, q_cp_f, q_sg_pg, q_sg_hc, q_lt_t, q_lt_f, q_le_t, q_le_f, q_eq_t, q_eq_f, ne_eq, eq_self, Bool.false_eq_true, Bool.true_eq_false, not_true_eq_false, not_false_eq_true, true_and, and_true, false_and, and_false, true_or, or_true, false_or, or_false, if_true, if_false, Int.reduceAdd, Int.reduceMul, Int.reduceSub, Int.reduceNeg, R_113_0, R_113_9, R_113_15, R_113_22, R_113_33, R_113_34, R_113_36, R_113_45, R_113_51, R_113_58, R_113_70, R_113_74, R_113_80, R_113_81, R_113_83, R_113_90, R_113_101, R_113_102, C_113_6, C_113_30, C_113_42, C_113_77, cc_endOfRun hE E1 hT, hw]
    · simp only [if_neg w2]
      have t : q_g (q_u s 4 cnt 3) 3 b = T b := by rw [q_gu_ne (by omega)]; exact hT b b0 b1
      simp (disch := first | omega | exact q_b_01 _) only [↓reduceIte, q_bk0, q_bk1, q_bk2, q_sg_b, q_b_0, q_b_n0, q_b_1, q_b_n1, q_b_T, q_b_F, q_sg_g, q_sg_sg, q_sg_xs, q_sg_id, q_gu_ne, q_gu_eq, q_g_fne, q_g_cpe, q_w_f, q_v_f, q_u_f, q_fn_f, q_cp_f, q_sg_pg, q_sg_hc, q_lt_t, q_lt_f, q_le_t, q_le_f, q_eq_t, q_eq_f, ne_eq, eq_self, Bool.false_eq_true, Bool.true_eq_false, not_true_eq_false, not_false_eq_true, true_and, and_true, false_and, and_false, true_or, or_true, false_or, or_false, if_true, if_false, Int.reduceAdd, Int.reduceMul, Int.reduceSub, Int.reduceNeg, t, R_113_0, R_113_9, R_113_15, R_113_22, R_113_33, R_113_34, R_113_36, R_113_45, R_113_51, R_113_58, R_113_70, R_113_74, R_113_80, R_113_81, R_113_83, R_113_90, R_113_101, R_113_102, C_113_6, C_113_30, C_113_42, C_113_77, cc_endOfRun hE E1 hT]
/-- the things of the text lie taken apart -/
def TS (T : Int → Int) (E : Int) (C : Nat) (t : Nat → Int → Int32) : Prop := C ≤ 400 ∧ bs T E C = E ∧ (∀ i : Nat, i < C → bs T E i < E) ∧ ∀ i : Nat, i ≤ C → q_g t 4 i = thg T E (bs T E i) ∧ q_g t 5 i = bs T E i ∧ q_g t 6 i = tel T E (bs T E i)
theorem thg_rg (T : Int → Int) (E b : Int) : 0 ≤ thg T E b ∧ thg T E b ≤ 3 := by
  unfold thg
  repeat' split
  all_goals omega
theorem wix_rg (T : Int → Int) (b e : Int) : ∀ (l : List (List Int)) (i : Int), 0 ≤ i → -1 ≤ wix T b e i l ∧ wix T b e i l < i + l.length ∨ wix T b e i l = -1
  | [], i, _ => Or.inr rfl
  | w :: r, i, h => by
    have ih := wix_rg T b e r (i + 1) (by omega)
    show (-1 ≤ (if (decide (e - b = (w.length : Int)) && eqw T b w) = true then i else wix T b e (i + 1) r) ∧ (if (decide (e - b = (w.length : Int)) && eqw T b w) = true then i else wix T b e (i + 1) r) < i + ((w :: r).length : Int)) ∨ _
    simp only [List.length_cons]
    split
    · left
      omega
    · rcases ih with h' | h'
      · left
        omega
      · right
        show (if (decide (e - b = (w.length : Int)) && eqw T b w) = true then i else wix T b e (i + 1) r) = -1
        rw [if_neg (by assumption)]
        exact h'
theorem tel_rg {T : Int → Int} {E b : Int} (hT : ∀ j, 0 ≤ j → j < E → 0 ≤ T j ∧ T j ≤ 255) (b0 : 0 ≤ b) : -1 ≤ tel T E b ∧ tel T E b ≤ 999 := by
  unfold tel
  have hw := wix_rg T b (run 97 122 T E b) WL 0 (by omega)
  have hl : (WL.length : Int) = 19 := rfl
  by_cases c0 : E ≤ b
  · simp only [if_pos c0]
    omega
  · simp only [if_neg c0]
    split
    · omega
    · split
      · split
        · omega
        · have n := nv_rg (T := T) (b := b) (run 48 57 T E b - b).toNat (fun j h1 h2 => run_in (E := E) h1 (by omega))
          have : (run 48 57 T E b - b).toNat ≤ 3 := by omega
          have p : ∀ k : Nat, k ≤ 3 → (10 : Int) ^ k ≤ 1000 := by decide
          have := p _ this
          omega
      · have := hT b b0 (by omega)
        omega
theorem cc_scanL (hE : q_g s 2 1 = E) (E0 : 0 ≤ E) (E1 : E ≤ 400) (hT : ∀ j, 0 ≤ j → j < E → q_g s 3 j = T j ∧ 0 ≤ T j ∧ T j ≤ 255) : ∀ (n cnt : Nat) (t : Nat → Int → Int32), E - bs T E cnt ≤ n → 0 ≤ bs T E cnt → bs T E cnt ≤ E → (cnt : Int) ≤ bs T E cnt → (∀ i : Nat, i < cnt → bs T E i < E ∧ q_g t 4 i = thg T E (bs T E i) ∧ q_g t 5 i = bs T E i ∧ q_g t 6 i = tel T E (bs T E i)) → (∀ k z, k ≠ 4 → k ≠ 5 → k ≠ 6 → t k z = s k z) → ∃ (C : Nat) (t' : Nat → Int → Int32), EV (d + 11) 112 12 [.ref 2, .int (q_I ((cnt : Int))), .int (q_I (bs T E cnt))] [] (q_h L xs (t) O c) = some (.inl none, q_h L xs (t') O c) ∧ TS T E C t' ∧ q_g t' 2 1 = 0 ∧ q_g t' 2 5 = 0 ∧ q_g t' 2 6 = -1 ∧ ∀ k z, k ≠ 4 → k ≠ 5 → k ≠ 6 → ¬ (k = 2 ∧ (z = 1 ∨ z = 5 ∨ z = 6)) → t' k z = s k z
  | n, cnt, t, hn, b0, b1, cb, hp, hf => by
    have hE' : q_g t 2 1 = E := by
      show (t 2 1).toInt = _
      rw [hf 2 1 (by decide) (by decide) (by decide)]
      exact hE
    by_cases c1 : bs T E cnt < E
    · cases n with
      | zero => omega
      | succ n =>
        have hT1 : ∀ j, 0 ≤ j → j < E → q_g (q_u t 5 (cnt : Int) (bs T E cnt)) 3 j = T j := fun j h1 h2 => by
          rw [q_gu_ne (by omega)]
          show (t 3 j).toInt = _
          rw [hf 3 j (by decide) (by decide) (by decide)]
          exact (hT j h1 h2).1
        have hE1 : q_g (q_u t 5 (cnt : Int) (bs T E cnt)) 2 1 = E := by rw [q_gu_ne (by omega), hE']
        have st := cc_scanThing (d := d) (L := L) (xs := xs) (O := O) (c := c) (cnt := (cnt : Int)) hE1 E1 hT1 (by omega) (by omega) b0 c1
        have tg := tend_gt (T := T) c1
        have ng := nxt_gt (T := T) c1
        have hE2 : q_g (q_u (q_u (q_u t 5 (cnt : Int) (bs T E cnt)) 4 (cnt : Int) (thg T E (bs T E cnt))) 6 (cnt : Int) (tel T E (bs T E cnt))) 2 1 = E := by rw [q_gu_ne (by omega), q_gu_ne (by omega), hE1]
        have er := cc_endOfRun (d := d + 10) (L := L) (xs := xs) (O := O) (c := c) (lo := 32) (hi := 32) (i := tend T E (bs T E cnt)) (T := T) hE2 E1 (fun j h1 h2 => by
          rw [q_gu_ne (by omega), q_gu_ne (by omega)]
          exact hT1 j h1 h2) (by omega) (by omega) (by omega) (by omega) (by omega) tg.2
        have en : run 32 32 T E (tend T E (bs T E cnt)) = bs T E (cnt + 1) := rfl
        have tr := thg_rg T E (bs T E cnt)
        have lr := tel_rg (T := T) (E := E) (b := bs T E cnt) (fun j h1 h2 => (hT j h1 h2).2) b0
        have nb : bs T E (cnt + 1) = nxt T E (bs T E cnt) := rfl
        obtain ⟨C, t', e1, e2⟩ := cc_scanL hE E0 E1 hT n (cnt + 1) (q_u (q_u (q_u t 5 (cnt : Int) (bs T E cnt)) 4 (cnt : Int) (thg T E (bs T E cnt))) 6 (cnt : Int) (tel T E (bs T E cnt))) (by omega) (by omega) (by omega) (by omega) (fun i hi => by
          by_cases ei : i = cnt
          · subst ei
            refine ⟨c1, ?_, ?_, ?_⟩
            · rw [q_gu_ne (by omega), q_gu_eq rfl, q_sg_id (by omega) (by omega)]
            · rw [q_gu_ne (by omega), q_gu_ne (by omega), q_gu_eq rfl, q_sg_id (by omega) (by omega)]
            · rw [q_gu_eq rfl, q_sg_id (by omega) (by omega)]
          · obtain ⟨p1, p2, p3, p4⟩ := hp i (by omega)
            rw [q_gu_ne (by omega), q_gu_ne (by omega), q_gu_ne (by omega), q_gu_ne (by omega), q_gu_ne (by omega), q_gu_ne (by omega), q_gu_ne (by omega), q_gu_ne (by omega), q_gu_ne (by omega)]
            exact ⟨p1, p2, p3, p4⟩) (fun k z h4 h5 h6 => by
          rw [q_u_n (by omega), q_u_n (by omega), q_u_n (by omega), hf k z h4 h5 h6])
        refine ⟨C, t', ?_, e2⟩
        rw [← e1, R_112_12]
        simp (disch := first | omega | exact q_b_01 _) only [↓reduceIte, q_bk0, q_bk1, q_bk2, q_sg_b, q_b_0, q_b_n0, q_b_1, q_b_n1, q_b_T, q_b_F, q_sg_g, q_sg_sg, q_sg_xs, q_sg_id, q_gu_ne, q_gu_eq, q_g_fne, q_g_cpe, q_w_f, q_v_f, q_u_f, q_fn_f, q_cp_f, q_sg_pg, q_sg_hc, q_lt_t, q_lt_f, q_le_t, q_le_f, q_eq_t, q_eq_f, ne_eq, eq_self, Bool.false_eq_true, Bool.true_eq_false, not_true_eq_false, not_false_eq_true, true_and, and_true, false_and, and_false, true_or, or_true, false_or, or_false, if_true, if_false, Int.reduceAdd, Int.reduceMul, Int.reduceSub, Int.reduceNeg, hE', R_112_0, R_112_11, R_112_20, R_112_27, R_112_34, R_112_41, R_112_48, R_112_55, R_112_62, R_112_72, R_112_79, R_112_84, R_112_89, R_112_94, C_112_8, C_112_38, C_112_45, st, er, en]
        rfl
    · have be : bs T E cnt = E := by omega
      have st : EV (d + 11) 112 12 [.ref 2, .int (q_I ((cnt : Int))), .int (q_I (bs T E cnt))] [] (q_h L xs (t) O c) = some (.inl none, q_h L xs (q_u (q_u (q_u (q_u (q_u (q_u t 4 (cnt : Int) 0) 5 (cnt : Int) E) 6 (cnt : Int) (-1)) 2 5 0) 2 6 (-1)) 2 1 0) O c) := by
        rw [R_112_12]
        simp (disch := first | omega | exact q_b_01 _) only [↓reduceIte, q_bk0, q_bk1, q_bk2, q_sg_b, q_b_0, q_b_n0, q_b_1, q_b_n1, q_b_T, q_b_F, q_sg_g, q_sg_sg, q_sg_xs, q_sg_id, q_gu_ne, q_gu_eq, q_g_fne, q_g_cpe, q_w_f, q_v_f, q_u_f, q_fn_f, q_cp_f, q_sg_pg, q_sg_hc, q_lt_t, q_lt_f, q_le_t, q_le_f, q_eq_t, q_eq_f, ne_eq, eq_self, Bool.false_eq_true, Bool.true_eq_false, not_true_eq_false, not_false_eq_true, true_and, and_true, false_and, and_false, true_or, or_true, false_or, or_false, if_true, if_false, Int.reduceAdd, Int.reduceMul, Int.reduceSub, Int.reduceNeg, hE', R_112_0, R_112_11, R_112_20, R_112_27, R_112_34, R_112_41, R_112_48, R_112_55, R_112_62, R_112_72, R_112_79, R_112_84, R_112_89, R_112_94, C_112_8, C_112_38, C_112_45]
      refine ⟨cnt, _, st, ⟨by omega, be, fun i hi => (hp i hi).1, fun i hi => ?_⟩, ?_, ?_, ?_, fun k z h4 h5 h6 h2 => ?_⟩
      · by_cases ei : i = cnt
        · subst ei
          have t0 : thg T E (bs T E i) = 0 := by
            unfold thg
            rw [if_pos (by omega)]
          have t1 : tel T E (bs T E i) = -1 := by
            unfold tel
            rw [if_pos (by omega)]
          rw [t0, t1, be]
          refine ⟨?_, ?_, ?_⟩
          · rw [q_gu_ne (by omega), q_gu_ne (by omega), q_gu_ne (by omega), q_gu_ne (by omega), q_gu_ne (by omega), q_gu_eq rfl]
            rfl
          · rw [q_gu_ne (by omega), q_gu_ne (by omega), q_gu_ne (by omega), q_gu_ne (by omega), q_gu_eq rfl, q_sg_id (by omega) (by omega)]
          · rw [q_gu_ne (by omega), q_gu_ne (by omega), q_gu_ne (by omega), q_gu_eq rfl]
            rfl
        · obtain ⟨p1, p2, p3, p4⟩ := hp i (by omega)
          refine ⟨?_, ?_, ?_⟩
          · rw [q_gu_ne (by omega), q_gu_ne (by omega), q_gu_ne (by omega), q_gu_ne (by omega), q_gu_ne (by omega), q_gu_ne (by omega)]
            exact p2
          · rw [q_gu_ne (by omega), q_gu_ne (by omega), q_gu_ne (by omega), q_gu_ne (by omega), q_gu_ne (by omega), q_gu_ne (by omega)]
            exact p3
          · rw [q_gu_ne (by omega), q_gu_ne (by omega), q_gu_ne (by omega), q_gu_ne (by omega), q_gu_ne (by omega), q_gu_ne (by omega)]
            exact p4
      · rw [q_gu_eq rfl]
        rfl
      · rw [q_gu_ne (by omega), q_gu_ne (by omega), q_gu_eq rfl]
        rfl
      · rw [q_gu_ne (by omega), q_gu_eq rfl]
        rfl
      · rw [q_u_n (by omega), q_u_n (by omega), q_u_n (by omega), q_u_n (by omega), q_u_n (by omega), q_u_n (by omega), hf k z h4 h5 h6]
theorem cc_scan (hE : q_g s 2 1 = E) (E0 : 0 ≤ E) (E1 : E ≤ 400) (hT : ∀ j, 0 ≤ j → j < E → q_g s 3 j = T j ∧ 0 ≤ T j ∧ T j ≤ 255) : ∃ (C : Nat) (t' : Nat → Int → Int32), EV (d + 11) 112 0 [.ref 2, .null, .null] [] (q_h L xs s O c) = some (.inl none, q_h L xs (t') O c) ∧ TS T E C t' ∧ q_g t' 2 1 = 0 ∧ q_g t' 2 5 = 0 ∧ q_g t' 2 6 = -1 ∧ ∀ k z, k ≠ 4 → k ≠ 5 → k ≠ 6 → ¬ (k = 2 ∧ (z = 1 ∨ z = 5 ∨ z = 6)) → t' k z = s k z := by
  have g := run_ge 32 32 T E 0
  have l := run_le (lo := 32) (hi := 32) (T := T) (E := E) (i := 0) E0
  have e0 : bs T E 0 = run 32 32 T E 0 := rfl
  obtain ⟨C, t', e1, e2⟩ := cc_scanL (d := d) (L := L) (xs := xs) (O := O) (c := c) hE E0 E1 hT (E - bs T E 0).toNat 0 s (by omega) (by omega) (by omega) (by omega) (fun i hi => absurd hi (by omega)) (fun _ _ _ _ _ => rfl)
  refine ⟨C, t', ?_, e2⟩
  rw [← e1]
  have er := cc_endOfRun (d := d + 10) (L := L) (xs := xs) (O := O) (c := c) (lo := 32) (hi := 32) (i := 0) (T := T) hE E1 (fun j h1 h2 => (hT j h1 h2).1) (by omega) (by omega) (by omega) (by omega) (by omega) E0
  simp (disch := first | omega | exact q_b_01 _) only [↓reduceIte, q_bk0, q_bk1, q_bk2, q_sg_b, q_b_0, q_b_n0, q_b_1, q_b_n1, q_b_T, q_b_F, q_sg_g, q_sg_sg, q_sg_xs, q_sg_id, q_gu_ne, q_gu_eq, q_g_fne, q_g_cpe, q_w_f, q_v_f, q_u_f, q_fn_f, q_cp_f, q_sg_pg, q_sg_hc, q_lt_t, q_lt_f, q_le_t, q_le_f, q_eq_t, q_eq_f, ne_eq, eq_self, Bool.false_eq_true, Bool.true_eq_false, not_true_eq_false, not_false_eq_true, true_and, and_true, false_and, and_false, true_or, or_true, false_or, or_false, if_true, if_false, Int.reduceAdd, Int.reduceMul, Int.reduceSub, Int.reduceNeg, R_112_0, R_112_11, R_112_20, R_112_27, R_112_34, R_112_41, R_112_48, R_112_55, R_112_62, R_112_72, R_112_79, R_112_84, R_112_89, R_112_94, C_112_8, C_112_38, C_112_45, er]
  rfl
end SCN
