/-! THE CLASS: what a law's lines sum up to -/
def EvL (F : Int → Int) (ls : List (Int × Int × List Int)) (vs : Nat → Int) : Prop := ∀ k : Nat, k < ls.length → (0 ≤ (ls.getD k (0, 0, [])).2.1 ∧ (ls.getD k (0, 0, [])).2.1 ≤ 99) ∧ (vs k = 0 ∨ vs k = 1) ∧ ((ls.getD k (0, 0, [])).2.2 = [] ∧ vs k = 1 ∨ ∃ m, m ≤ 32 ∧ Gd F (ls.getD k (0, 0, [])).2.2 (vs k) m)
def tt (ls : List (Int × Int × List Int)) (vs : Nat → Int) (w : Int) : Nat → Int
  | 0 => 0
  | k + 1 => tt ls vs w k + (if (ls.getD k (0, 0, [])).1 = w ∧ vs k = 1 then (ls.getD k (0, 0, [])).2.1 else 0)
section CLT
variable {d L : Nat} {xs : Nat → Int32} {O : Nat → Int64} {c : Bool × Nat × Nat} {F : Int → Int}
theorem gr_all (hF : ∀ k, 0 ≤ k → k < 7 → 0 ≤ F k ∧ F k ≤ 999) {l : List Int} {v : Int} {m : Nat} (h : Gd F l v m) : l.length ≤ 400 → GR F L xs O c l v m ∧ 1 ≤ m := by
  induction h using Gd_ind with
  | num n h0 h1 => exact fun _ => ⟨gr_push (by omega) (by omega) (Or.inl ⟨rfl, h0, h1⟩), Nat.le_refl _⟩
  | fact k h0 h1 =>
    have := hF k h0 h1
    exact fun _ => ⟨gr_push (by omega) (by omega) (Or.inr (Or.inl ⟨k, h0, h1, rfl, rfl⟩)), Nat.le_refl _⟩
  | hd =>
    have := q_b01 (F 1 = 3)
    exact fun _ => ⟨gr_push (by omega) (by omega) (Or.inr (Or.inr (Or.inl ⟨rfl, rfl⟩))), Nat.le_refl _⟩
  | sl =>
    have := q_b01 (F 1 = 2)
    exact fun _ => ⟨gr_push (by omega) (by omega) (Or.inr (Or.inr (Or.inr (Or.inl ⟨rfl, rfl⟩)))), Nat.le_refl _⟩
  | ev =>
    have := q_b01 (q_rm (F 0) 2 = 0)
    exact fun _ => ⟨gr_push (by omega) (by omega) (Or.inr (Or.inr (Or.inr (Or.inr ⟨rfl, rfl⟩)))), Nat.le_refl _⟩
  | nt h hv ih =>
    intro hl
    simp only [List.length_append, List.length_cons, List.length_nil] at hl
    obtain ⟨a, b⟩ := ih (by omega)
    exact ⟨gr_not a hv b, b⟩
  | @add l1 l2 v1 v2 m1 m2 m h1 h2 k1 k2 ih1 ih2 =>
    intro hl
    simp only [List.length_append, List.length_cons, List.length_nil] at hl
    obtain ⟨a1, b1⟩ := ih1 (by omega)
    obtain ⟨a2, b2⟩ := ih2 (by omega)
    have r1 := Gd_rg hF h1
    have r2 := Gd_rg hF h2
    refine ⟨gr_bin a1 a2 k1 k2 b2 (by omega) (by omega) (fun d s => ?_), by omega⟩
    have tg : ex_tgt (q_I 4000) 4000 [32, 36, 47, 58] 62 = 32 := rfl
    simp (disch := first | omega | exact q_b_01 _) only [↓reduceIte, q_bk0, q_bk1, q_bk2, q_sg_b, q_b_0, q_b_n0, q_b_1, q_b_n1, q_b_T, q_b_F, q_sg_g, q_sg_sg, q_sg_xs, q_sg_id, q_gu_ne, q_gu_eq, q_g_fne, q_g_cpe, q_w_f, q_v_f, q_u_f, q_fn_f, q_cp_f, q_sg_pg, q_sg_hc, q_lt_t, q_lt_f, q_le_t, q_le_f, q_eq_t, q_eq_f, ne_eq, eq_self, Bool.false_eq_true, Bool.true_eq_false, not_true_eq_false, not_false_eq_true, true_and, and_true, false_and, and_false, true_or, or_true, false_or, or_false, if_true, if_false, Int.reduceAdd, Int.reduceMul, Int.reduceSub, Int.reduceNeg, tg, R_75_0, R_75_32, R_75_36, R_75_41, R_75_45, R_75_46, R_75_47, R_75_52, R_75_56, R_75_57, R_75_58, R_75_62, C_75_1]
  | @le l1 l2 v1 v2 m1 m2 m h1 h2 k1 k2 ih1 ih2 =>
    intro hl
    simp only [List.length_append, List.length_cons, List.length_nil] at hl
    obtain ⟨a1, b1⟩ := ih1 (by omega)
    obtain ⟨a2, b2⟩ := ih2 (by omega)
    have r1 := Gd_rg hF h1
    have r2 := Gd_rg hF h2
    have r3 := q_b01 (v1 < v2)
    refine ⟨gr_bin a1 a2 k1 k2 b2 (by omega) (by omega) (fun d s => ?_), by omega⟩
    have tg : ex_tgt (q_I 4001) 4000 [32, 36, 47, 58] 62 = 36 := rfl
    by_cases e : v1 < v2
    · simp (disch := first | omega | exact q_b_01 _) only [↓reduceIte, q_bk0, q_bk1, q_bk2, q_sg_b, q_b_0, q_b_n0, q_b_1, q_b_n1, q_b_T, q_b_F, q_sg_g, q_sg_sg, q_sg_xs, q_sg_id, q_gu_ne, q_gu_eq, q_g_fne, q_g_cpe, q_w_f, q_v_f, q_u_f, q_fn_f, q_cp_f, q_sg_pg, q_sg_hc, q_lt_t, q_lt_f, q_le_t, q_le_f, q_eq_t, q_eq_f, ne_eq, eq_self, Bool.false_eq_true, Bool.true_eq_false, not_true_eq_false, not_false_eq_true, true_and, and_true, false_and, and_false, true_or, or_true, false_or, or_false, if_true, if_false, Int.reduceAdd, Int.reduceMul, Int.reduceSub, Int.reduceNeg, tg, R_75_0, R_75_32, R_75_36, R_75_41, R_75_45, R_75_46, R_75_47, R_75_52, R_75_56, R_75_57, R_75_58, R_75_62, C_75_1]
    · simp (disch := first | omega | exact q_b_01 _) only [↓reduceIte, q_bk0, q_bk1, q_bk2, q_sg_b, q_b_0, q_b_n0, q_b_1, q_b_n1, q_b_T, q_b_F, q_sg_g, q_sg_sg, q_sg_xs, q_sg_id, q_gu_ne, q_gu_eq, q_g_fne, q_g_cpe, q_w_f, q_v_f, q_u_f, q_fn_f, q_cp_f, q_sg_pg, q_sg_hc, q_lt_t, q_lt_f, q_le_t, q_le_f, q_eq_t, q_eq_f, ne_eq, eq_self, Bool.false_eq_true, Bool.true_eq_false, not_true_eq_false, not_false_eq_true, true_and, and_true, false_and, and_false, true_or, or_true, false_or, or_false, if_true, if_false, Int.reduceAdd, Int.reduceMul, Int.reduceSub, Int.reduceNeg, tg, R_75_0, R_75_32, R_75_36, R_75_41, R_75_45, R_75_46, R_75_47, R_75_52, R_75_56, R_75_57, R_75_58, R_75_62, C_75_1]
  | @mo l1 l2 v1 v2 m1 m2 m h1 h2 k1 k2 ih1 ih2 =>
    intro hl
    simp only [List.length_append, List.length_cons, List.length_nil] at hl
    obtain ⟨a1, b1⟩ := ih1 (by omega)
    obtain ⟨a2, b2⟩ := ih2 (by omega)
    have r1 := Gd_rg hF h1
    have r2 := Gd_rg hF h2
    have r3 := q_b01 (v2 < v1)
    refine ⟨gr_bin a1 a2 k1 k2 b2 (by omega) (by omega) (fun d s => ?_), by omega⟩
    have tg : ex_tgt (q_I 4002) 4000 [32, 36, 47, 58] 62 = 47 := rfl
    by_cases e : v2 < v1
    · simp (disch := first | omega | exact q_b_01 _) only [↓reduceIte, q_bk0, q_bk1, q_bk2, q_sg_b, q_b_0, q_b_n0, q_b_1, q_b_n1, q_b_T, q_b_F, q_sg_g, q_sg_sg, q_sg_xs, q_sg_id, q_gu_ne, q_gu_eq, q_g_fne, q_g_cpe, q_w_f, q_v_f, q_u_f, q_fn_f, q_cp_f, q_sg_pg, q_sg_hc, q_lt_t, q_lt_f, q_le_t, q_le_f, q_eq_t, q_eq_f, ne_eq, eq_self, Bool.false_eq_true, Bool.true_eq_false, not_true_eq_false, not_false_eq_true, true_and, and_true, false_and, and_false, true_or, or_true, false_or, or_false, if_true, if_false, Int.reduceAdd, Int.reduceMul, Int.reduceSub, Int.reduceNeg, tg, R_75_0, R_75_32, R_75_36, R_75_41, R_75_45, R_75_46, R_75_47, R_75_52, R_75_56, R_75_57, R_75_58, R_75_62, C_75_1]
    · simp (disch := first | omega | exact q_b_01 _) only [↓reduceIte, q_bk0, q_bk1, q_bk2, q_sg_b, q_b_0, q_b_n0, q_b_1, q_b_n1, q_b_T, q_b_F, q_sg_g, q_sg_sg, q_sg_xs, q_sg_id, q_gu_ne, q_gu_eq, q_g_fne, q_g_cpe, q_w_f, q_v_f, q_u_f, q_fn_f, q_cp_f, q_sg_pg, q_sg_hc, q_lt_t, q_lt_f, q_le_t, q_le_f, q_eq_t, q_eq_f, ne_eq, eq_self, Bool.false_eq_true, Bool.true_eq_false, not_true_eq_false, not_false_eq_true, true_and, and_true, false_and, and_false, true_or, or_true, false_or, or_false, if_true, if_false, Int.reduceAdd, Int.reduceMul, Int.reduceSub, Int.reduceNeg, tg, R_75_0, R_75_32, R_75_36, R_75_41, R_75_45, R_75_46, R_75_47, R_75_52, R_75_56, R_75_57, R_75_58, R_75_62, C_75_1]
  | @an l1 l2 v1 v2 m1 m2 m h1 h2 k3 k4 k1 k2 ih1 ih2 =>
    intro hl
    simp only [List.length_append, List.length_cons, List.length_nil] at hl
    obtain ⟨a1, b1⟩ := ih1 (by omega)
    obtain ⟨a2, b2⟩ := ih2 (by omega)
    have r3 := q_b01 (v1 = 1 ∧ v2 = 1)
    refine ⟨gr_bin a1 a2 k1 k2 b2 (by omega) (by omega) (fun d s => ?_), by omega⟩
    have tg : ex_tgt (q_I 4003) 4000 [32, 36, 47, 58] 62 = 58 := rfl
    rcases k3 with e1 | e1 <;> rcases k4 with e2 | e2 <;> subst e1 <;> subst e2 <;> simp (disch := first | omega | exact q_b_01 _) only [↓reduceIte, q_bk0, q_bk1, q_bk2, q_sg_b, q_b_0, q_b_n0, q_b_1, q_b_n1, q_b_T, q_b_F, q_sg_g, q_sg_sg, q_sg_xs, q_sg_id, q_gu_ne, q_gu_eq, q_g_fne, q_g_cpe, q_w_f, q_v_f, q_u_f, q_fn_f, q_cp_f, q_sg_pg, q_sg_hc, q_lt_t, q_lt_f, q_le_t, q_le_f, q_eq_t, q_eq_f, ne_eq, eq_self, Bool.false_eq_true, Bool.true_eq_false, not_true_eq_false, not_false_eq_true, true_and, and_true, false_and, and_false, true_or, or_true, false_or, or_false, if_true, if_false, Int.reduceAdd, Int.reduceMul, Int.reduceSub, Int.reduceNeg, tg, R_75_0, R_75_32, R_75_36, R_75_41, R_75_45, R_75_46, R_75_47, R_75_52, R_75_56, R_75_57, R_75_58, R_75_62, C_75_1] <;> rfl
  | @orr l1 l2 v1 v2 m1 m2 m h1 h2 k3 k4 k1 k2 ih1 ih2 =>
    intro hl
    simp only [List.length_append, List.length_cons, List.length_nil] at hl
    obtain ⟨a1, b1⟩ := ih1 (by omega)
    obtain ⟨a2, b2⟩ := ih2 (by omega)
    have r3 := q_b01 (v1 = 1 ∨ v2 = 1)
    refine ⟨gr_bin a1 a2 k1 k2 b2 (by omega) (by omega) (fun d s => ?_), by omega⟩
    have tg : ex_tgt (q_I 4004) 4000 [32, 36, 47, 58] 62 = 62 := rfl
    rcases k3 with e1 | e1 <;> rcases k4 with e2 | e2 <;> subst e1 <;> subst e2 <;> simp (disch := first | omega | exact q_b_01 _) only [↓reduceIte, q_bk0, q_bk1, q_bk2, q_sg_b, q_b_0, q_b_n0, q_b_1, q_b_n1, q_b_T, q_b_F, q_sg_g, q_sg_sg, q_sg_xs, q_sg_id, q_gu_ne, q_gu_eq, q_g_fne, q_g_cpe, q_w_f, q_v_f, q_u_f, q_fn_f, q_cp_f, q_sg_pg, q_sg_hc, q_lt_t, q_lt_f, q_le_t, q_le_f, q_eq_t, q_eq_f, ne_eq, eq_self, Bool.false_eq_true, Bool.true_eq_false, not_true_eq_false, not_false_eq_true, true_and, and_true, false_and, and_false, true_or, or_true, false_or, or_false, if_true, if_false, Int.reduceAdd, Int.reduceMul, Int.reduceSub, Int.reduceNeg, tg, R_75_0, R_75_32, R_75_36, R_75_41, R_75_45, R_75_46, R_75_47, R_75_52, R_75_56, R_75_57, R_75_58, R_75_62, C_75_1] <;> rfl
theorem cc_holds {s : Nat → Int → Int32} {p v : Int} {l : List Int} {m : Nat} (hF : ∀ k, 0 ≤ k → k < 7 → 0 ≤ F k ∧ F k ≤ 999) (hf : ∀ k, 0 ≤ k → k < 7 → q_g s 260 k = F k) (hc : ∀ k : Nat, k < l.length → q_g s 53 (p + k) = l.getD k 0) (p0 : 0 ≤ p) (p1 : p + l.length ≤ 400) (h : Gd F l v m) (hm : m ≤ 32) (hv : v = 0 ∨ v = 1) : ∃ t, EV (d + 2) 73 0 [.ref 49, .int (q_I (p)), .int (q_I (p + l.length)), .ref 260, .null, .null, .null] [] (q_h L xs s O c) = some (.inl (some (.int (q_I (v)))), q_h L xs (t) O c) ∧ ∀ k z, k ≠ 54 → t k z = s k z := by
  have r := Gd_rg hF h
  obtain ⟨t, y', a1, a2, a3, a4⟩ := (gr_all (L := L) (xs := xs) (O := O) (c := c) hF h (by omega)).1 d s p (p + l.length) 0 p .null hf hc (by omega) (by omega) p0 (by omega) (by omega)
  refine ⟨t, ?_, a4⟩
  have mx := jj_max (d := d + 1) (L := L) (xs := xs) (s := s) (O := O) (c := c) (x := 0) (y := p)
  have st : EV (d + 2) 73 0 [.ref 49, .int (q_I (p)), .int (q_I (p + l.length)), .ref 260, .null, .null, .null] [] (q_h L xs s O c) = EV (d + 2) 73 17 [.ref 49, .int (q_I (p)), .int (q_I (p + l.length)), .ref 260, .int (q_I (0)), .int (q_I (p)), .null] [] (q_h L xs s O c) := by
    have e0 : (if q_sg 0 < q_sg p then p else 0) = p := by
      rw [q_sg_id (by omega) (by omega), q_sg_id (by omega) (by omega)]
      split <;> omega
    rw [e0] at mx
    simp (disch := first | omega | exact q_b_01 _) only [↓reduceIte, q_bk0, q_bk1, q_bk2, q_sg_b, q_b_0, q_b_n0, q_b_1, q_b_n1, q_b_T, q_b_F, q_sg_g, q_sg_sg, q_sg_xs, q_sg_id, q_gu_ne, q_gu_eq, q_g_fne, q_g_cpe, q_w_f, q_v_f, q_u_f, q_fn_f, q_cp_f, q_sg_pg, q_sg_hc, q_lt_t, q_lt_f, q_le_t, q_le_f, q_eq_t, q_eq_f, ne_eq, eq_self, Bool.false_eq_true, Bool.true_eq_false, not_true_eq_false, not_false_eq_true, true_and, and_true, false_and, and_false, true_or, or_true, false_or, or_false, if_true, if_false, Int.reduceAdd, Int.reduceMul, Int.reduceSub, Int.reduceNeg, mx, R_73_0, R_73_5, R_73_7, R_73_15, R_73_23, R_73_31, R_73_38, R_73_48, R_73_55, R_73_67, R_73_68, R_73_74, R_73_82, R_73_87, R_73_105, R_73_107, R_73_110, R_73_118, R_73_124, R_73_127, R_73_146, R_73_156, R_73_157, R_73_163, R_73_169, R_73_172, R_73_176, R_73_177, C_73_12, C_73_64, C_73_153]
  rw [st, a1, R_73_17]
  rcases hv with e | e <;> subst e <;> simp (disch := first | omega | exact q_b_01 _) only [↓reduceIte, q_bk0, q_bk1, q_bk2, q_sg_b, q_b_0, q_b_n0, q_b_1, q_b_n1, q_b_T, q_b_F, q_sg_g, q_sg_sg, q_sg_xs, q_sg_id, q_gu_ne, q_gu_eq, q_g_fne, q_g_cpe, q_w_f, q_v_f, q_u_f, q_fn_f, q_cp_f, q_sg_pg, q_sg_hc, q_lt_t, q_lt_f, q_le_t, q_le_f, q_eq_t, q_eq_f, ne_eq, eq_self, Bool.false_eq_true, Bool.true_eq_false, not_true_eq_false, not_false_eq_true, true_and, and_true, false_and, and_false, true_or, or_true, false_or, or_false, if_true, if_false, Int.reduceAdd, Int.reduceMul, Int.reduceSub, Int.reduceNeg, a2, R_73_0, R_73_5, R_73_7, R_73_15, R_73_23, R_73_31, R_73_38, R_73_48, R_73_55, R_73_67, R_73_68, R_73_74, R_73_82, R_73_87, R_73_105, R_73_107, R_73_110, R_73_118, R_73_124, R_73_127, R_73_146, R_73_156, R_73_157, R_73_163, R_73_169, R_73_172, R_73_176, R_73_177, C_73_12, C_73_64, C_73_153]
theorem cc_holds0 {s : Nat → Int → Int32} {p : Int} (p0 : 0 ≤ p) (p1 : p ≤ 400) : EV (d + 2) 73 0 [.ref 49, .int (q_I (p)), .int (q_I (p)), .ref 260, .null, .null, .null] [] (q_h L xs s O c) = some (.inl (some (.int (q_I (1)))), q_h L xs (s) O c) := by
  simp (disch := first | omega | exact q_b_01 _) only [↓reduceIte, q_bk0, q_bk1, q_bk2, q_sg_b, q_b_0, q_b_n0, q_b_1, q_b_n1, q_b_T, q_b_F, q_sg_g, q_sg_sg, q_sg_xs, q_sg_id, q_gu_ne, q_gu_eq, q_g_fne, q_g_cpe, q_w_f, q_v_f, q_u_f, q_fn_f, q_cp_f, q_sg_pg, q_sg_hc, q_lt_t, q_lt_f, q_le_t, q_le_f, q_eq_t, q_eq_f, ne_eq, eq_self, Bool.false_eq_true, Bool.true_eq_false, not_true_eq_false, not_false_eq_true, true_and, and_true, false_and, and_false, true_or, or_true, false_or, or_false, if_true, if_false, Int.reduceAdd, Int.reduceMul, Int.reduceSub, Int.reduceNeg, R_73_0, R_73_5, R_73_7, R_73_15, R_73_23, R_73_31, R_73_38, R_73_48, R_73_55, R_73_67, R_73_68, R_73_74, R_73_82, R_73_87, R_73_105, R_73_107, R_73_110, R_73_118, R_73_124, R_73_127, R_73_146, R_73_156, R_73_157, R_73_163, R_73_169, R_73_172, R_73_176, R_73_177, C_73_12, C_73_64, C_73_153]
theorem tt_rg {ls : List (Int × Int × List Int)} {vs : Nat → Int} {w : Int} (hE : EvL F ls vs) : ∀ k : Nat, k ≤ ls.length → 0 ≤ tt ls vs w k ∧ tt ls vs w k ≤ 99 * k
  | 0, _ => by
    show (0 : Int) ≤ 0 ∧ (0 : Int) ≤ 99 * ((0 : Nat) : Int)
    omega
  | k + 1, h => by
    have ih := tt_rg (w := w) hE k (by omega)
    have := (hE k (by omega)).1
    unfold tt
    split <;> omega
theorem fl_take (ls : List (Int × Int × List Int)) (k : Nat) (h : k < ls.length) : fl (ls.take (k + 1)) = fl (ls.take k) ++ (ls.getD k (0, 0, [])).2.2 := by
  have e : ls.take (k + 1) = ls.take k ++ [ls.getD k (0, 0, [])] := by
    rw [List.take_add_one, List.getElem?_eq_getElem h]
    simp [List.getD_eq_getElem?_getD, List.getElem?_eq_getElem h]
  rw [e, fl_app]
  show fl (ls.take k) ++ ((ls.getD k (0, 0, [])).2.2 ++ []) = _
  rw [List.append_nil]
theorem fl_split (ls : List (Int × Int × List Int)) (k : Nat) : fl ls = fl (ls.take k) ++ fl (ls.drop k) := by rw [← fl_app, List.take_append_drop]
theorem cc_totalOf {s : Nat → Int → Int32} {w : Int} {ls : List (Int × Int × List Int)} {vs : Nat → Int} (hW : LW ls 49 s) (hF : ∀ k, 0 ≤ k → k < 7 → 0 ≤ F k ∧ F k ≤ 999) (hf : ∀ k, 0 ≤ k → k < 7 → q_g s 260 k = F k) (hE : EvL F ls vs) (w0 : 0 ≤ w) (w1 : w < 100) : ∃ t, EV (d + 3) 72 0 [.ref 49, .int (q_I (w)), .ref 260, .null, .null, .null] [] (q_h L xs s O c) = some (.inl (some (.int (q_I (tt ls vs w ls.length)))), q_h L xs (t) O c) ∧ ∀ k z, k ≠ 54 → t k z = s k z := by
  obtain ⟨h1, h2, h3, h4, h5, h6⟩ := hW
  have st : EV (d + 3) 72 0 [.ref 49, .int (q_I (w)), .ref 260, .null, .null, .null] [] (q_h L xs s O c) = EV (d + 3) 72 8 [.ref 49, .int (q_I (w)), .ref 260, .int (q_I (0)), .int (q_I (0)), .int (q_I (0))] [] (q_h L xs s O c) := by
    simp (disch := first | omega | exact q_b_01 _) only [↓reduceIte, q_bk0, q_bk1, q_bk2, q_sg_b, q_b_0, q_b_n0, q_b_1, q_b_n1, q_b_T, q_b_F, q_sg_g, q_sg_sg, q_sg_xs, q_sg_id, q_gu_ne, q_gu_eq, q_g_fne, q_g_cpe, q_w_f, q_v_f, q_u_f, q_fn_f, q_cp_f, q_sg_pg, q_sg_hc, q_lt_t, q_lt_f, q_le_t, q_le_f, q_eq_t, q_eq_f, ne_eq, eq_self, Bool.false_eq_true, Bool.true_eq_false, not_true_eq_false, not_false_eq_true, true_and, and_true, false_and, and_false, true_or, or_true, false_or, or_false, if_true, if_false, Int.reduceAdd, Int.reduceMul, Int.reduceSub, Int.reduceNeg, R_72_0, R_72_17, R_72_24, R_72_31, R_72_35, R_72_45, R_72_49, R_72_52, R_72_60, R_72_62, R_72_69, R_72_77, C_72_46]
  have lp : ∀ n : Nat, n ≤ ls.length → ∃ t, EV (d + 3) 72 8 [.ref 49, .int (q_I (w)), .ref 260, .int (q_I (0)), .int (q_I (0)), .int (q_I (0))] [] (q_h L xs s O c) = EV (d + 3) 72 8 [.ref 49, .int (q_I (w)), .ref 260, .int (q_I (tt ls vs w n)), .int (q_I (((fl (ls.take n)).length : Int))), .int (q_I ((n : Int)))] [] (q_h L xs (t) O c) ∧ ∀ k z, k ≠ 54 → t k z = s k z := by
    intro n
    induction n with
    | zero => exact fun _ => ⟨s, rfl, fun _ _ _ => rfl⟩
    | succ n ih =>
      intro hn
      obtain ⟨t, a1, a2⟩ := ih (by omega)
      have g : ∀ k z, k ≠ 54 → q_g t k z = q_g s k z := fun k z hk => by
        show (t k z).toInt = _
        rw [a2 k z hk]
        rfl
      have g0 : q_g t 49 0 = ls.length := by rw [g 49 0 (by decide), h1]
      obtain ⟨p1, p2, p3⟩ := h3 n (by omega)
      have p1' : q_g t 50 n = (ls.getD n (0, 0, [])).1 := by rw [g 50 _ (by decide)]; exact p1
      have p2' : q_g t 51 n = (ls.getD n (0, 0, [])).2.1 := by rw [g 51 _ (by decide)]; exact p2
      have p3' : q_g t 52 n = (fl (ls.take (n + 1))).length := by rw [g 52 _ (by decide)]; exact p3
      obtain ⟨q0, q1, q2⟩ := hE n (by omega)
      have tr := tt_rg (w := w) hE n (by omega)
      have ft := fl_take ls n (by omega)
      have ftl : (fl (ls.take (n + 1))).length = (fl (ls.take n)).length + (ls.getD n (0, 0, [])).2.2.length := by rw [ft, List.length_append]
      have fle : (fl (ls.take (n + 1))).length ≤ 400 := by
        have := fl_split ls (n + 1)
        have : (fl ls).length = (fl (ls.take (n + 1))).length + (fl (ls.drop (n + 1))).length := by rw [← List.length_append, ← this]
        omega
      have wr := q_g_rg t 50 n
      rw [p1'] at wr
      generalize hl : (ls.getD n (0, 0, [])).2.2 = l at *
      have ec : ∀ k : Nat, k < l.length → q_g t 53 (((fl (ls.take n)).length : Int) + k) = l.getD k 0 := fun k hk => by
        rw [g 53 _ (by decide)]
        have := fl_split ls (n + 1)
        have lt : (fl (ls.take n)).length + k < (fl ls).length := by
          rw [this, List.length_append]
          omega
        have e := h6 ((fl (ls.take n)).length + k) lt
        rw [show ((fl (ls.take n)).length : Int) + (k : Int) = (((fl (ls.take n)).length + k : Nat) : Int) by omega]
        refine Eq.trans e ?_
        rw [this, ft, List.getD_eq_getElem?_getD, List.getD_eq_getElem?_getD, List.append_assoc, List.getElem?_append_right (by omega), Nat.add_sub_cancel_left, List.getElem?_append_left hk]
      generalize hA : (fl (ls.take n)).length = A at *
      generalize hB : (fl (ls.take (n + 1))).length = B at *
      show ∃ t, _ = EV (d + 3) 72 8 [.ref 49, .int (q_I (w)), .ref 260, .int (q_I (tt ls vs w n + (if (ls.getD n (0, 0, [])).1 = w ∧ vs n = 1 then (ls.getD n (0, 0, [])).2.1 else 0))), .int (q_I ((B : Int))), .int (q_I (((n + 1 : Nat) : Int)))] [] (q_h L xs (t) O c) ∧ _
      rw [a1]
      by_cases cw : (ls.getD n (0, 0, [])).1 = w
      · have hh : ∃ u, EV (d + 2) 73 0 [.ref 49, .int (q_I ((A : Int))), .int (q_I ((B : Int))), .ref 260, .null, .null, .null] [] (q_h L xs (t) O c) = some (.inl (some (.int (q_I (vs n)))), q_h L xs (u) O c) ∧ ∀ k z, k ≠ 54 → u k z = t k z := by
          rcases q2 with ⟨e1, e2⟩ | ⟨m, m1, m2⟩
          · have eB : B = A := by rw [ftl, e1]; simp
            rw [eB, e2]
            exact ⟨t, cc_holds0 (by omega) (by omega), fun _ _ _ => rfl⟩
          · have := cc_holds (d := d) (L := L) (xs := xs) (O := O) (c := c) (s := t) (p := (A : Int)) hF (fun k k0 k1 => by rw [g 260 k (by decide)]; exact hf k k0 k1) ec (by omega) (by omega) m2 m1 q1
            rw [show (A : Int) + (l.length : Int) = (B : Int) by omega] at this
            exact this
        obtain ⟨u, u1, u2⟩ := hh
        have gu : ∀ k z, k ≠ 54 → q_g u k z = q_g t k z := fun k z hk => by
          show (u k z).toInt = _
          rw [u2 k z hk]
          rfl
        have p2u : q_g u 51 n = (ls.getD n (0, 0, [])).2.1 := by rw [gu 51 _ (by decide), p2']
        have p3u : q_g u 52 n = (B : Int) := by rw [gu 52 _ (by decide), p3']
        refine ⟨u, ?_, fun k z hk => by rw [u2 k z hk, a2 k z hk]⟩
        rcases q1 with e | e
        · rw [if_neg (by rw [e]; omega), R_72_8]
          simp (disch := first | omega | exact q_b_01 _) only [↓reduceIte, q_bk0, q_bk1, q_bk2, q_sg_b, q_b_0, q_b_n0, q_b_1, q_b_n1, q_b_T, q_b_F, q_sg_g, q_sg_sg, q_sg_xs, q_sg_id, q_gu_ne, q_gu_eq, q_g_fne, q_g_cpe, q_w_f, q_v_f, q_u_f, q_fn_f, q_cp_f, q_sg_pg, q_sg_hc, q_lt_t, q_lt_f, q_le_t, q_le_f, q_eq_t, q_eq_f, ne_eq, eq_self, Bool.false_eq_true, Bool.true_eq_false, not_true_eq_false, not_false_eq_true, true_and, and_true, false_and, and_false, true_or, or_true, false_or, or_false, if_true, if_false, Int.reduceAdd, Int.reduceMul, Int.reduceSub, Int.reduceNeg, g0, p1', cw, p3', u1, e, p3u, R_72_0, R_72_17, R_72_24, R_72_31, R_72_35, R_72_45, R_72_49, R_72_52, R_72_60, R_72_62, R_72_69, R_72_77, C_72_46]
          rw [Int.add_zero]
          rfl
        · rw [if_pos ⟨cw, e⟩, R_72_8]
          simp (disch := first | omega | exact q_b_01 _) only [↓reduceIte, q_bk0, q_bk1, q_bk2, q_sg_b, q_b_0, q_b_n0, q_b_1, q_b_n1, q_b_T, q_b_F, q_sg_g, q_sg_sg, q_sg_xs, q_sg_id, q_gu_ne, q_gu_eq, q_g_fne, q_g_cpe, q_w_f, q_v_f, q_u_f, q_fn_f, q_cp_f, q_sg_pg, q_sg_hc, q_lt_t, q_lt_f, q_le_t, q_le_f, q_eq_t, q_eq_f, ne_eq, eq_self, Bool.false_eq_true, Bool.true_eq_false, not_true_eq_false, not_false_eq_true, true_and, and_true, false_and, and_false, true_or, or_true, false_or, or_false, if_true, if_false, Int.reduceAdd, Int.reduceMul, Int.reduceSub, Int.reduceNeg, g0, p1', cw, p3', u1, e, p2u, p3u, R_72_0, R_72_17, R_72_24, R_72_31, R_72_35, R_72_45, R_72_49, R_72_52, R_72_60, R_72_62, R_72_69, R_72_77, C_72_46]
          rfl
      · refine ⟨t, ?_, a2⟩
        rw [if_neg (fun x => cw x.1), R_72_8]
        simp (disch := first | omega | exact q_b_01 _) only [↓reduceIte, q_bk0, q_bk1, q_bk2, q_sg_b, q_b_0, q_b_n0, q_b_1, q_b_n1, q_b_T, q_b_F, q_sg_g, q_sg_sg, q_sg_xs, q_sg_id, q_gu_ne, q_gu_eq, q_g_fne, q_g_cpe, q_w_f, q_v_f, q_u_f, q_fn_f, q_cp_f, q_sg_pg, q_sg_hc, q_lt_t, q_lt_f, q_le_t, q_le_f, q_eq_t, q_eq_f, ne_eq, eq_self, Bool.false_eq_true, Bool.true_eq_false, not_true_eq_false, not_false_eq_true, true_and, and_true, false_and, and_false, true_or, or_true, false_or, or_false, if_true, if_false, Int.reduceAdd, Int.reduceMul, Int.reduceSub, Int.reduceNeg, g0, p1', cw, p3', R_72_0, R_72_17, R_72_24, R_72_31, R_72_35, R_72_45, R_72_49, R_72_52, R_72_60, R_72_62, R_72_69, R_72_77, C_72_46]
        rw [Int.add_zero]
        rfl
  obtain ⟨t, a1, a2⟩ := lp ls.length (Nat.le_refl _)
  have g0 : q_g t 49 0 = ls.length := by
    show (t 49 0).toInt = _
    rw [a2 49 0 (by decide)]
    exact h1
  refine ⟨t, ?_, a2⟩
  rw [st, a1, R_72_8]
  simp (disch := first | omega | exact q_b_01 _) only [↓reduceIte, q_bk0, q_bk1, q_bk2, q_sg_b, q_b_0, q_b_n0, q_b_1, q_b_n1, q_b_T, q_b_F, q_sg_g, q_sg_sg, q_sg_xs, q_sg_id, q_gu_ne, q_gu_eq, q_g_fne, q_g_cpe, q_w_f, q_v_f, q_u_f, q_fn_f, q_cp_f, q_sg_pg, q_sg_hc, q_lt_t, q_lt_f, q_le_t, q_le_f, q_eq_t, q_eq_f, ne_eq, eq_self, Bool.false_eq_true, Bool.true_eq_false, not_true_eq_false, not_false_eq_true, true_and, and_true, false_and, and_false, true_or, or_true, false_or, or_false, if_true, if_false, Int.reduceAdd, Int.reduceMul, Int.reduceSub, Int.reduceNeg, g0, R_72_0, R_72_17, R_72_24, R_72_31, R_72_35, R_72_45, R_72_49, R_72_52, R_72_60, R_72_62, R_72_69, R_72_77, C_72_46]
theorem cc_totalOf0 {s : Nat → Int → Int32} {w : Int} (h : q_g s 49 0 = -1) : EV (d + 3) 72 0 [.ref 49, .int (q_I (w)), .ref 260, .null, .null, .null] [] (q_h L xs s O c) = some (.inl (some (.int (q_I (0)))), q_h L xs (s) O c) := by
  simp (disch := first | omega | exact q_b_01 _) only [↓reduceIte, q_bk0, q_bk1, q_bk2, q_sg_b, q_b_0, q_b_n0, q_b_1, q_b_n1, q_b_T, q_b_F, q_sg_g, q_sg_sg, q_sg_xs, q_sg_id, q_gu_ne, q_gu_eq, q_g_fne, q_g_cpe, q_w_f, q_v_f, q_u_f, q_fn_f, q_cp_f, q_sg_pg, q_sg_hc, q_lt_t, q_lt_f, q_le_t, q_le_f, q_eq_t, q_eq_f, ne_eq, eq_self, Bool.false_eq_true, Bool.true_eq_false, not_true_eq_false, not_false_eq_true, true_and, and_true, false_and, and_false, true_or, or_true, false_or, or_false, if_true, if_false, Int.reduceAdd, Int.reduceMul, Int.reduceSub, Int.reduceNeg, h, R_72_0, R_72_8, R_72_17, R_72_24, R_72_31, R_72_35, R_72_45, R_72_49, R_72_52, R_72_60, R_72_62, R_72_69, R_72_77, C_72_46]
end CLT
