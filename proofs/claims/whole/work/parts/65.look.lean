/-! CALLS OF BOTH: look -/
def GG (m Tp : Int → Int) (R key : Int) : Int := gm (nA m Tp R key)
def loF (m Tp : Int → Int) (R key x : Int) : Int := if x = -1 ∨ GG m Tp R key < GG m Tp R x then key else x
section LO
variable {d L : Nat} {xs : Nat → Int32} {s t : Nat → Int → Int32} {O : Nat → Int64} {c : Bool × Nat × Nat} {b : Int} {m : Int → Int} {Tp : Int → Int} {R N : Int}
theorem nA_rg (m Tp : Int → Int) (R key a : Int) : 0 ≤ nA m Tp R key a ∧ nA m Tp R key a ≤ 5 := by
  have := q_S_bd (f := Fk m Tp R key a) (lo := 0) (hi := 5) (a := 0) (b := 1) (fun i _ _ => by
    rcases Fk_01 m Tp R key a i with e | e <;> rw [e] <;> omega) (by omega)
  unfold nA
  omega
theorem pA_rg (m Tp : Int → Int) (R key : Int) {a : Int} (a0 : 0 ≤ a) (a1 : a < 5) : 0 ≤ pA m Tp R key a ∧ pA m Tp R key a ≤ 5 := by
  have := q_S_bd (f := Fk m Tp R key a) (lo := a) (hi := 5) (a := 0) (b := 1) (fun i _ _ => by
    rcases Fk_01 m Tp R key a i with e | e <;> rw [e] <;> omega) (by omega)
  unfold pA
  omega
theorem gmx_rg {f : Int → Int} (h : ∀ a, 0 ≤ a → a < 5 → 0 ≤ f a ∧ f a ≤ 5) : ∀ n : Nat, (n : Int) ≤ 5 → 0 ≤ q_it (fun a x => if x < f a then f a else x) n 0 ∧ q_it (fun a x => if x < f a then f a else x) n 0 ≤ 5 := by
  intro n
  induction n with
  | zero =>
    intro _
    show (0 : Int) ≤ 0 ∧ (0 : Int) ≤ 5
    omega
  | succ n ih =>
    intro hn
    have := ih (by omega)
    have := h n (by omega) (by omega)
    show 0 ≤ (if _ < f n then f n else _) ∧ (if _ < f n then f n else _) ≤ 5
    split <;> omega
theorem GG_rg (m Tp : Int → Int) (R key : Int) : 0 ≤ GG m Tp R key ∧ GG m Tp R key ≤ 5 := gmx_rg (fun a _ _ => nA_rg m Tp R key a) 5 (by omega)
theorem cc_greatestPart (hW : ∀ v, 0 ≤ v → v < 5 → Wk m v s) {key : Int} (k0 : 0 ≤ key) (k1 : key < 100) : EV (d + 1) 202 0 [.ref 1, .int (q_I (FT m Tp R)), .int (q_I (key)), .null, .null, .null, .null] [] (q_h L xs s O c) = some (.inl (some (.int (q_I (GG m Tp R key)))), q_h L xs (s) O c) := by
  have fr := FT_rg (m := m) (Tp := Tp) (R := R)
  have fs : q_sg (FT m Tp R) = FT m Tp R := q_sg_id (by omega) (by omega)
  unfold GG
  rw [← pn_eq]
  simp (disch := first | omega | exact q_b_01 _) only [↓reduceIte, q_bk0, q_bk1, q_bk2, q_sg_b, q_b_0, q_b_n0, q_b_1, q_b_n1, q_b_T, q_b_F, q_sg_g, q_sg_sg, q_sg_xs, q_sg_id, q_gu_ne, q_gu_eq, q_g_fne, q_g_cpe, q_w_f, q_v_f, q_u_f, q_fn_f, q_cp_f, q_sg_pg, q_sg_hc, q_lt_t, q_lt_f, q_le_t, q_le_f, q_eq_t, q_eq_f, ne_eq, eq_self, Bool.false_eq_true, Bool.true_eq_false, not_true_eq_false, not_false_eq_true, true_and, and_true, false_and, and_false, true_or, or_true, false_or, or_false, if_true, if_false, Int.reduceAdd, Int.reduceMul, Int.reduceSub, Int.reduceNeg, R_202_0, R_202_11, R_202_24, R_202_27, R_202_33, R_202_39, R_202_42, R_202_49, R_202_52, R_202_54, R_202_61, R_202_64, R_202_66, R_202_69, R_202_72, R_202_78, R_202_84, R_202_91, C_202_21, C_202_36, C_202_81]
  obtain ⟨u, f1, f2, f3⟩ := q_for (fun j (u : Int × Value × Value) => EV (d + 1) 202 5 [.ref 1, .int (q_I (FT m Tp R)), .int (q_I (key)), .int (q_I (u.1)), .int (q_I (j)), u.2.1, u.2.2] [] (q_h L xs s O c)) (fun j u => u.1 = q_it (fun a x => if x < pA m Tp R key a then pA m Tp R key a else x) j.toNat 0 ∧ 0 ≤ u.1 ∧ u.1 ≤ 5) (lo := 0) (hi := 5) (by omega) (fun j u a1 a2 ⟨eu, u0, u1⟩ => by
    have pr := pA_rg m Tp R key a1 a2
    have inner : ∃ q, EV (d + 1) 202 18 [.ref 1, .int (q_I (FT m Tp R)), .int (q_I (key)), .int (q_I (u.1)), .int (q_I (j)), .int (q_I (0)), .int (q_I (j))] [] (q_h L xs s O c) = EV (d + 1) 202 78 [.ref 1, .int (q_I (FT m Tp R)), .int (q_I (key)), .int (q_I (u.1)), .int (q_I (j)), .int (q_I (pA m Tp R key j)), .int (q_I (q))] [] (q_h L xs s O c) := by
      by_cases hf : fb m Tp R j = true
      · refine ⟨5, ?_⟩
        refine (q_sm (fun i x => EV (d + 1) 202 18 [.ref 1, .int (q_I (FT m Tp R)), .int (q_I (key)), .int (q_I (u.1)), .int (q_I (j)), .int (q_I (x)), .int (q_I (i))] [] (q_h L xs s O c)) (Fk m Tp R key j) (lo := j) (hi := 5) (by omega) (fun i x b1 b2 => ?_)).trans ?_
        · have w1 := (hW j a1 a2).1 key k0 k1
          have w2 := (hW i (by omega) b2).1 key k0 k1
          have hWj := r264_W a1 a2
          have hWi := r264_W (show 0 ≤ i by omega) b2
          have w1' : q_g s (q_r264 j + 1) key = (VV m j key).toInt := w1
          have w2' : q_g s (q_r264 i + 1) key = (VV m i key).toInt := w2
          have r1 := q_g_rg s (q_r264 j + 1) key
          have r2 := q_g_rg s (q_r264 i + 1) key
          rw [w1'] at r1
          rw [w2'] at r2
          rw [R_202_18]
          unfold Fk
          by_cases hi : fb m Tp R i = true
          · by_cases he : (VV m j key).toInt = (VV m i key).toInt
            · simp (disch := first | omega | exact q_b_01 _) only [↓reduceIte, q_bk0, q_bk1, q_bk2, q_sg_b, q_b_0, q_b_n0, q_b_1, q_b_n1, q_b_T, q_b_F, q_sg_g, q_sg_sg, q_sg_xs, q_sg_id, q_gu_ne, q_gu_eq, q_g_fne, q_g_cpe, q_w_f, q_v_f, q_u_f, q_fn_f, q_cp_f, q_sg_pg, q_sg_hc, q_lt_t, q_lt_f, q_le_t, q_le_f, q_eq_t, q_eq_f, ne_eq, eq_self, Bool.false_eq_true, Bool.true_eq_false, not_true_eq_false, not_false_eq_true, true_and, and_true, false_and, and_false, true_or, or_true, false_or, or_false, if_true, if_false, Int.reduceAdd, Int.reduceMul, Int.reduceSub, Int.reduceNeg, fs, hf, hi, he, R_202_0, R_202_11, R_202_24, R_202_27, R_202_33, R_202_39, R_202_42, R_202_49, R_202_52, R_202_54, R_202_61, R_202_64, R_202_66, R_202_69, R_202_72, R_202_78, R_202_84, R_202_91, C_202_21, C_202_36, C_202_81, cc_hasBit, FT_of, wk_g0 hWj, wk_g0 hWi, wk_l1 hWj, wk_l1 hWi, w1', w2']
            · simp (disch := first | omega | exact q_b_01 _) only [↓reduceIte, q_bk0, q_bk1, q_bk2, q_sg_b, q_b_0, q_b_n0, q_b_1, q_b_n1, q_b_T, q_b_F, q_sg_g, q_sg_sg, q_sg_xs, q_sg_id, q_gu_ne, q_gu_eq, q_g_fne, q_g_cpe, q_w_f, q_v_f, q_u_f, q_fn_f, q_cp_f, q_sg_pg, q_sg_hc, q_lt_t, q_lt_f, q_le_t, q_le_f, q_eq_t, q_eq_f, ne_eq, eq_self, Bool.false_eq_true, Bool.true_eq_false, not_true_eq_false, not_false_eq_true, true_and, and_true, false_and, and_false, true_or, or_true, false_or, or_false, if_true, if_false, Int.reduceAdd, Int.reduceMul, Int.reduceSub, Int.reduceNeg, fs, hf, hi, he, Int.add_zero, R_202_0, R_202_11, R_202_24, R_202_27, R_202_33, R_202_39, R_202_42, R_202_49, R_202_52, R_202_54, R_202_61, R_202_64, R_202_66, R_202_69, R_202_72, R_202_78, R_202_84, R_202_91, C_202_21, C_202_36, C_202_81, cc_hasBit, FT_of, wk_g0 hWj, wk_g0 hWi, wk_l1 hWj, wk_l1 hWi, w1', w2']
          · simp (disch := first | omega | exact q_b_01 _) only [↓reduceIte, q_bk0, q_bk1, q_bk2, q_sg_b, q_b_0, q_b_n0, q_b_1, q_b_n1, q_b_T, q_b_F, q_sg_g, q_sg_sg, q_sg_xs, q_sg_id, q_gu_ne, q_gu_eq, q_g_fne, q_g_cpe, q_w_f, q_v_f, q_u_f, q_fn_f, q_cp_f, q_sg_pg, q_sg_hc, q_lt_t, q_lt_f, q_le_t, q_le_f, q_eq_t, q_eq_f, ne_eq, eq_self, Bool.false_eq_true, Bool.true_eq_false, not_true_eq_false, not_false_eq_true, true_and, and_true, false_and, and_false, true_or, or_true, false_or, or_false, if_true, if_false, Int.reduceAdd, Int.reduceMul, Int.reduceSub, Int.reduceNeg, fs, hf, hi, Int.add_zero, R_202_0, R_202_11, R_202_24, R_202_27, R_202_33, R_202_39, R_202_42, R_202_49, R_202_52, R_202_54, R_202_61, R_202_64, R_202_66, R_202_69, R_202_72, R_202_78, R_202_84, R_202_91, C_202_21, C_202_36, C_202_81, cc_hasBit, FT_of]
        · rw [R_202_18]
          simp (disch := first | omega | exact q_b_01 _) only [↓reduceIte, q_bk0, q_bk1, q_bk2, q_sg_b, q_b_0, q_b_n0, q_b_1, q_b_n1, q_b_T, q_b_F, q_sg_g, q_sg_sg, q_sg_xs, q_sg_id, q_gu_ne, q_gu_eq, q_g_fne, q_g_cpe, q_w_f, q_v_f, q_u_f, q_fn_f, q_cp_f, q_sg_pg, q_sg_hc, q_lt_t, q_lt_f, q_le_t, q_le_f, q_eq_t, q_eq_f, ne_eq, eq_self, Bool.false_eq_true, Bool.true_eq_false, not_true_eq_false, not_false_eq_true, true_and, and_true, false_and, and_false, true_or, or_true, false_or, or_false, if_true, if_false, Int.reduceAdd, Int.reduceMul, Int.reduceSub, Int.reduceNeg, fs, hf, R_202_0, R_202_11, R_202_24, R_202_27, R_202_33, R_202_39, R_202_42, R_202_49, R_202_52, R_202_54, R_202_61, R_202_64, R_202_66, R_202_69, R_202_72, R_202_84, R_202_91, C_202_21, C_202_36, C_202_81, cc_hasBit, FT_of]
          rfl
      · refine ⟨j, ?_⟩
        have e0 : pA m Tp R key j = 0 := q_S_z (fun i _ _ => q_bf (fun h => hf h.1))
        rw [e0, R_202_18]
        simp (disch := first | omega | exact q_b_01 _) only [↓reduceIte, q_bk0, q_bk1, q_bk2, q_sg_b, q_b_0, q_b_n0, q_b_1, q_b_n1, q_b_T, q_b_F, q_sg_g, q_sg_sg, q_sg_xs, q_sg_id, q_gu_ne, q_gu_eq, q_g_fne, q_g_cpe, q_w_f, q_v_f, q_u_f, q_fn_f, q_cp_f, q_sg_pg, q_sg_hc, q_lt_t, q_lt_f, q_le_t, q_le_f, q_eq_t, q_eq_f, ne_eq, eq_self, Bool.false_eq_true, Bool.true_eq_false, not_true_eq_false, not_false_eq_true, true_and, and_true, false_and, and_false, true_or, or_true, false_or, or_false, if_true, if_false, Int.reduceAdd, Int.reduceMul, Int.reduceSub, Int.reduceNeg, fs, hf, R_202_0, R_202_11, R_202_24, R_202_27, R_202_33, R_202_39, R_202_42, R_202_49, R_202_52, R_202_54, R_202_61, R_202_64, R_202_66, R_202_69, R_202_72, R_202_84, R_202_91, C_202_21, C_202_36, C_202_81, cc_hasBit, FT_of]
    obtain ⟨q, inner⟩ := inner
    refine ⟨(if u.1 < pA m Tp R key j then pA m Tp R key j else u.1, .int (q_I (pA m Tp R key j)), .int (q_I q)), ?_, by rw [q_it_1 _ a1, ← eu], by
      show 0 ≤ (if u.1 < pA m Tp R key j then pA m Tp R key j else u.1) ∧ (if u.1 < pA m Tp R key j then pA m Tp R key j else u.1) ≤ 5
      split <;> omega⟩
    rw [R_202_5]
    simp (disch := first | omega | exact q_b_01 _) only [↓reduceIte, q_bk0, q_bk1, q_bk2, q_sg_b, q_b_0, q_b_n0, q_b_1, q_b_n1, q_b_T, q_b_F, q_sg_g, q_sg_sg, q_sg_xs, q_sg_id, q_gu_ne, q_gu_eq, q_g_fne, q_g_cpe, q_w_f, q_v_f, q_u_f, q_fn_f, q_cp_f, q_sg_pg, q_sg_hc, q_lt_t, q_lt_f, q_le_t, q_le_f, q_eq_t, q_eq_f, ne_eq, eq_self, Bool.false_eq_true, Bool.true_eq_false, not_true_eq_false, not_false_eq_true, true_and, and_true, false_and, and_false, true_or, or_true, false_or, or_false, if_true, if_false, Int.reduceAdd, Int.reduceMul, Int.reduceSub, Int.reduceNeg, R_202_0, R_202_11, R_202_24, R_202_27, R_202_33, R_202_39, R_202_42, R_202_49, R_202_52, R_202_54, R_202_61, R_202_64, R_202_66, R_202_69, R_202_72, R_202_78, R_202_84, R_202_91, C_202_21, C_202_36, C_202_81, inner, jj_max]) (t := (0, .null, .null)) ⟨rfl, by omega, by omega⟩
  refine Eq.trans f1 ?_
  rw [R_202_5, f2]
  simp (disch := first | omega | exact q_b_01 _) only [↓reduceIte, q_bk0, q_bk1, q_bk2, q_sg_b, q_b_0, q_b_n0, q_b_1, q_b_n1, q_b_T, q_b_F, q_sg_g, q_sg_sg, q_sg_xs, q_sg_id, q_gu_ne, q_gu_eq, q_g_fne, q_g_cpe, q_w_f, q_v_f, q_u_f, q_fn_f, q_cp_f, q_sg_pg, q_sg_hc, q_lt_t, q_lt_f, q_le_t, q_le_f, q_eq_t, q_eq_f, ne_eq, eq_self, Bool.false_eq_true, Bool.true_eq_false, not_true_eq_false, not_false_eq_true, true_and, and_true, false_and, and_false, true_or, or_true, false_or, or_false, if_true, if_false, Int.reduceAdd, Int.reduceMul, Int.reduceSub, Int.reduceNeg, R_202_0, R_202_11, R_202_24, R_202_27, R_202_33, R_202_39, R_202_42, R_202_49, R_202_52, R_202_54, R_202_61, R_202_64, R_202_66, R_202_69, R_202_72, R_202_78, R_202_84, R_202_91, C_202_21, C_202_36, C_202_81]
  rfl
theorem loF_rg {x key : Int} (h0 : 0 ≤ key) (h1 : key < 100) (hx : -1 ≤ x ∧ x < 100) : 0 ≤ loF m Tp R key x ∧ loF m Tp R key x < 100 ∨ (x ≠ -1 ∧ loF m Tp R key x = x) := by
  unfold loF
  split
  · exact Or.inl ⟨h0, h1⟩
  · rename_i h
    exact Or.inr ⟨fun e => h (Or.inl e), rfl⟩
theorem mm_lookM {found least key : Int} (hV : ∀ v, 0 ≤ v → v < 5 → vo m v = true → ∀ z, 0 ≤ z → z < 100 → q_g s 308 (100 * v + z) = (VV m v z).toInt) (k0 : 0 ≤ key) (k1 : key < 100) (y7 y8 : Value) : ∃ p7 p8, EV (d + 1) 331 43 [.ref 285, .int (q_I (FT m Tp R)), .int (q_I found), .int (q_I least), .int (q_I key), .int (q_I 0), .int (q_I 0), y7, y8] [] (q_h L xs s O c) = EV (d + 1) 331 139 [.ref 285, .int (q_I (FT m Tp R)), .int (q_I found), .int (q_I least), .int (q_I key), .int (q_I (GG m Tp R key)), .int (q_I 5), p7, p8] [] (q_h L xs s O c) := by
  have fr := FT_rg (m := m) (Tp := Tp) (R := R)
  have fs : q_sg (FT m Tp R) = FT m Tp R := q_sg_id (by omega) (by omega)
  obtain ⟨u, f1, f2, f3⟩ := q_for (fun j (u : Int × Value × Value) => EV (d + 1) 331 43 [.ref 285, .int (q_I (FT m Tp R)), .int (q_I found), .int (q_I least), .int (q_I key), .int (q_I u.1), .int (q_I j), u.2.1, u.2.2] [] (q_h L xs s O c)) (fun j u => u.1 = q_it (fun a x => if x < nA m Tp R key a then nA m Tp R key a else x) j.toNat 0 ∧ 0 ≤ u.1 ∧ u.1 ≤ 5) (lo := 0) (hi := 5) (by omega) (fun j u a1 a2 ⟨eu, u0, u1⟩ => by
    have pr := nA_rg m Tp R key j
    have inner : EV (d + 1) 331 55 [.ref 285, .int (q_I (FT m Tp R)), .int (q_I (found)), .int (q_I (least)), .int (q_I (key)), .int (q_I (u.1)), .int (q_I (j)), .int (q_I (0)), .int (q_I (0))] [] (q_h L xs s O c) = EV (d + 1) 331 124 [.ref 285, .int (q_I (FT m Tp R)), .int (q_I (found)), .int (q_I (least)), .int (q_I (key)), .int (q_I (u.1)), .int (q_I (j)), .int (q_I (nA m Tp R key j)), .int (q_I (5))] [] (q_h L xs s O c) := by
      refine (q_sm (fun i x => EV (d + 1) 331 55 [.ref 285, .int (q_I (FT m Tp R)), .int (q_I (found)), .int (q_I (least)), .int (q_I (key)), .int (q_I (u.1)), .int (q_I (j)), .int (q_I (x)), .int (q_I (i))] [] (q_h L xs s O c)) (Fk m Tp R key j) (lo := 0) (hi := 5) (by omega) (fun i x b1 b2 => ?_)).trans ?_
      · rw [R_331_55]
        unfold Fk
        by_cases hf : fb m Tp R j = true
        · by_cases hi : fb m Tp R i = true
          · have w1 := hV j a1 a2 (fb_vo hf).1 key k0 k1
            have w2 := hV i b1 b2 (fb_vo hi).1 key k0 k1
            have r1 := q_g_rg s 308 (100 * j + key)
            have r2 := q_g_rg s 308 (100 * i + key)
            rw [w1] at r1
            rw [w2] at r2
            by_cases he : (VV m j key).toInt = (VV m i key).toInt
            · simp (disch := first | omega | exact q_b_01 _) only [↓reduceIte, q_bk0, q_bk1, q_bk2, q_sg_b, q_b_0, q_b_n0, q_b_1, q_b_n1, q_b_T, q_b_F, q_sg_g, q_sg_sg, q_sg_xs, q_sg_id, q_gu_ne, q_gu_eq, q_g_fne, q_g_cpe, q_w_f, q_v_f, q_u_f, q_fn_f, q_cp_f, q_sg_pg, q_sg_hc, q_lt_t, q_lt_f, q_le_t, q_le_f, q_eq_t, q_eq_f, ne_eq, eq_self, Bool.false_eq_true, Bool.true_eq_false, not_true_eq_false, not_false_eq_true, true_and, and_true, false_and, and_false, true_or, or_true, false_or, or_false, if_true, if_false, Int.reduceAdd, Int.reduceMul, Int.reduceSub, Int.reduceNeg, fs, hf, hi, he, w1, w2, R_331_0, R_331_4, R_331_12, R_331_14, R_331_29, R_331_33, R_331_37, R_331_49, R_331_61, R_331_69, R_331_72, R_331_78, R_331_81, R_331_94, R_331_107, R_331_110, R_331_114, R_331_115, R_331_124, R_331_131, R_331_139, R_331_145, R_331_148, R_331_154, R_331_160, C_331_1, C_331_30, C_331_66, C_331_75, C_331_128, mm_isOf, FT_of]
            · simp (disch := first | omega | exact q_b_01 _) only [↓reduceIte, q_bk0, q_bk1, q_bk2, q_sg_b, q_b_0, q_b_n0, q_b_1, q_b_n1, q_b_T, q_b_F, q_sg_g, q_sg_sg, q_sg_xs, q_sg_id, q_gu_ne, q_gu_eq, q_g_fne, q_g_cpe, q_w_f, q_v_f, q_u_f, q_fn_f, q_cp_f, q_sg_pg, q_sg_hc, q_lt_t, q_lt_f, q_le_t, q_le_f, q_eq_t, q_eq_f, ne_eq, eq_self, Bool.false_eq_true, Bool.true_eq_false, not_true_eq_false, not_false_eq_true, true_and, and_true, false_and, and_false, true_or, or_true, false_or, or_false, if_true, if_false, Int.reduceAdd, Int.reduceMul, Int.reduceSub, Int.reduceNeg, fs, hf, hi, he, w1, w2, R_331_0, R_331_4, R_331_12, R_331_14, R_331_29, R_331_33, R_331_37, R_331_49, R_331_61, R_331_69, R_331_72, R_331_78, R_331_81, R_331_94, R_331_107, R_331_110, R_331_114, R_331_115, R_331_124, R_331_131, R_331_139, R_331_145, R_331_148, R_331_154, R_331_160, C_331_1, C_331_30, C_331_66, C_331_75, C_331_128, mm_isOf, FT_of]
          · simp (disch := first | omega | exact q_b_01 _) only [↓reduceIte, q_bk0, q_bk1, q_bk2, q_sg_b, q_b_0, q_b_n0, q_b_1, q_b_n1, q_b_T, q_b_F, q_sg_g, q_sg_sg, q_sg_xs, q_sg_id, q_gu_ne, q_gu_eq, q_g_fne, q_g_cpe, q_w_f, q_v_f, q_u_f, q_fn_f, q_cp_f, q_sg_pg, q_sg_hc, q_lt_t, q_lt_f, q_le_t, q_le_f, q_eq_t, q_eq_f, ne_eq, eq_self, Bool.false_eq_true, Bool.true_eq_false, not_true_eq_false, not_false_eq_true, true_and, and_true, false_and, and_false, true_or, or_true, false_or, or_false, if_true, if_false, Int.reduceAdd, Int.reduceMul, Int.reduceSub, Int.reduceNeg, fs, hf, hi, R_331_0, R_331_4, R_331_12, R_331_14, R_331_29, R_331_33, R_331_37, R_331_49, R_331_61, R_331_69, R_331_72, R_331_78, R_331_81, R_331_94, R_331_107, R_331_110, R_331_114, R_331_115, R_331_124, R_331_131, R_331_139, R_331_145, R_331_148, R_331_154, R_331_160, C_331_1, C_331_30, C_331_66, C_331_75, C_331_128, mm_isOf, FT_of]
        · simp (disch := first | omega | exact q_b_01 _) only [↓reduceIte, q_bk0, q_bk1, q_bk2, q_sg_b, q_b_0, q_b_n0, q_b_1, q_b_n1, q_b_T, q_b_F, q_sg_g, q_sg_sg, q_sg_xs, q_sg_id, q_gu_ne, q_gu_eq, q_g_fne, q_g_cpe, q_w_f, q_v_f, q_u_f, q_fn_f, q_cp_f, q_sg_pg, q_sg_hc, q_lt_t, q_lt_f, q_le_t, q_le_f, q_eq_t, q_eq_f, ne_eq, eq_self, Bool.false_eq_true, Bool.true_eq_false, not_true_eq_false, not_false_eq_true, true_and, and_true, false_and, and_false, true_or, or_true, false_or, or_false, if_true, if_false, Int.reduceAdd, Int.reduceMul, Int.reduceSub, Int.reduceNeg, fs, hf, R_331_0, R_331_4, R_331_12, R_331_14, R_331_29, R_331_33, R_331_37, R_331_49, R_331_61, R_331_69, R_331_72, R_331_78, R_331_81, R_331_94, R_331_107, R_331_110, R_331_114, R_331_115, R_331_124, R_331_131, R_331_139, R_331_145, R_331_148, R_331_154, R_331_160, C_331_1, C_331_30, C_331_66, C_331_75, C_331_128, mm_isOf, FT_of]
      · rw [R_331_55]
        simp (disch := first | omega | exact q_b_01 _) only [↓reduceIte, q_bk0, q_bk1, q_bk2, q_sg_b, q_b_0, q_b_n0, q_b_1, q_b_n1, q_b_T, q_b_F, q_sg_g, q_sg_sg, q_sg_xs, q_sg_id, q_gu_ne, q_gu_eq, q_g_fne, q_g_cpe, q_w_f, q_v_f, q_u_f, q_fn_f, q_cp_f, q_sg_pg, q_sg_hc, q_lt_t, q_lt_f, q_le_t, q_le_f, q_eq_t, q_eq_f, ne_eq, eq_self, Bool.false_eq_true, Bool.true_eq_false, not_true_eq_false, not_false_eq_true, true_and, and_true, false_and, and_false, true_or, or_true, false_or, or_false, if_true, if_false, Int.reduceAdd, Int.reduceMul, Int.reduceSub, Int.reduceNeg, R_331_0, R_331_4, R_331_12, R_331_14, R_331_29, R_331_33, R_331_37, R_331_49, R_331_61, R_331_69, R_331_72, R_331_78, R_331_81, R_331_94, R_331_107, R_331_110, R_331_114, R_331_115, R_331_131, R_331_139, R_331_145, R_331_148, R_331_154, R_331_160, C_331_1, C_331_30, C_331_66, C_331_75, C_331_128]
        rfl
    refine ⟨(if u.1 < nA m Tp R key j then nA m Tp R key j else u.1, .int (q_I (nA m Tp R key j)), .int (q_I 5)), ?_, by rw [q_it_1 _ a1, ← eu], by
      show 0 ≤ (if u.1 < nA m Tp R key j then nA m Tp R key j else u.1) ∧ (if u.1 < nA m Tp R key j then nA m Tp R key j else u.1) ≤ 5
      split <;> omega⟩
    rw [R_331_43]
    simp (disch := first | omega | exact q_b_01 _) only [↓reduceIte, q_bk0, q_bk1, q_bk2, q_sg_b, q_b_0, q_b_n0, q_b_1, q_b_n1, q_b_T, q_b_F, q_sg_g, q_sg_sg, q_sg_xs, q_sg_id, q_gu_ne, q_gu_eq, q_g_fne, q_g_cpe, q_w_f, q_v_f, q_u_f, q_fn_f, q_cp_f, q_sg_pg, q_sg_hc, q_lt_t, q_lt_f, q_le_t, q_le_f, q_eq_t, q_eq_f, ne_eq, eq_self, Bool.false_eq_true, Bool.true_eq_false, not_true_eq_false, not_false_eq_true, true_and, and_true, false_and, and_false, true_or, or_true, false_or, or_false, if_true, if_false, Int.reduceAdd, Int.reduceMul, Int.reduceSub, Int.reduceNeg, R_331_0, R_331_4, R_331_12, R_331_14, R_331_29, R_331_33, R_331_37, R_331_49, R_331_61, R_331_69, R_331_72, R_331_78, R_331_81, R_331_94, R_331_107, R_331_110, R_331_114, R_331_115, R_331_124, R_331_131, R_331_139, R_331_145, R_331_148, R_331_154, R_331_160, C_331_1, C_331_30, C_331_66, C_331_75, C_331_128, inner, mm_greater]
    rw [show (if nA m Tp R key j < u.1 then u.1 else nA m Tp R key j) = (if u.1 < nA m Tp R key j then nA m Tp R key j else u.1) by split <;> split <;> omega]) (t := (0, y7, y8)) ⟨rfl, by omega, by omega⟩
  refine ⟨u.2.1, u.2.2, ?_⟩
  refine Eq.trans f1 ?_
  rw [R_331_43, f2]
  simp (disch := first | omega | exact q_b_01 _) only [↓reduceIte, q_bk0, q_bk1, q_bk2, q_sg_b, q_b_0, q_b_n0, q_b_1, q_b_n1, q_b_T, q_b_F, q_sg_g, q_sg_sg, q_sg_xs, q_sg_id, q_gu_ne, q_gu_eq, q_g_fne, q_g_cpe, q_w_f, q_v_f, q_u_f, q_fn_f, q_cp_f, q_sg_pg, q_sg_hc, q_lt_t, q_lt_f, q_le_t, q_le_f, q_eq_t, q_eq_f, ne_eq, eq_self, Bool.false_eq_true, Bool.true_eq_false, not_true_eq_false, not_false_eq_true, true_and, and_true, false_and, and_false, true_or, or_true, false_or, or_false, if_true, if_false, Int.reduceAdd, Int.reduceMul, Int.reduceSub, Int.reduceNeg, R_331_0, R_331_4, R_331_12, R_331_14, R_331_29, R_331_33, R_331_37, R_331_49, R_331_61, R_331_69, R_331_72, R_331_78, R_331_81, R_331_94, R_331_107, R_331_110, R_331_114, R_331_115, R_331_124, R_331_131, R_331_145, R_331_148, R_331_154, R_331_160, C_331_1, C_331_30, C_331_66, C_331_75, C_331_128]
  rfl
theorem op_look (B : Big b s) : Op (Big b) (fun h => EV (d + 40) 25 0 [.ref 1, .ref 312, .null] [] h) (fun h => EV (d + 40) 331 0 [.ref 285, .null, .null, .null, .null, .null, .null, .null, .null] [] h) L xs s O c := by
  have H := B.1.1
  have I := B.1.2.1
  have Hd := inv_hd I
  have Hv := inv_vw I
  have T := B.2.1
  generalize hN : q_g s 2 1 = N at *
  have hT3 : ∀ k, 0 ≤ k → k < N → q_g s 3 k = q_g s 290 k := fun k k0 k1 => (T.2.2.2 k k0 k1).1
  have H1 : RB (q_g s 286) (q_u s 2 1 0) 7 := rb_fr H (fun k a b => by
    funext z
    exact q_u_n (by omega))
  rcases cc_takeRows (d := d + 38) (L := L) (xs := xs) (O := O) (c := c) hN T.2.1 T.2.2.1 hT3 with ⟨h1, h2, h3, e1⟩ | ⟨h1, e1⟩
  · obtain ⟨t, e2, e3, e4⟩ := cc_fitting (d := d + 21) (L := L) (xs := xs) (O := O) (c := c) (Tp := q_g s 290) (R := N / 2) H1 Hd Hv (by omega) (by omega) (fun k k0 k1 => by
      rw [q_gu_ne (by omega), hT3 k k0 (by omega)]
      exact ⟨rfl, (T.2.2.2 k k0 (by omega)).2.1⟩) h3
    have tz : ∀ k z, k < 270 ∨ 284 < k → q_g t k z = q_g (q_u s 2 1 0) k z := fun k z hk => by
      show (t k z).toInt = _
      rw [e4 k hk]
      rfl
    have hT4 : ∀ k, 0 ≤ k → k < 2 * (N / 2) → q_g t 3 k = q_g s 290 k ∧ 0 ≤ q_g s 290 k := fun k k0 k1 => by
      rw [tz 3 k (by omega), q_gu_ne (by omega), hT3 k k0 (by omega)]
      exact ⟨rfl, (T.2.2.2 k k0 (by omega)).2.1⟩
    have fr := FT_rg (m := q_g s 286) (Tp := q_g s 290) (R := N / 2)
    have fs : q_sg (FT (q_g s 286) (q_g s 290) (N / 2)) = FT (q_g s 286) (q_g s 290) (N / 2) := q_sg_id (by omega) (by omega)
    have bp := bc_eq fr.1 fr.2
    have bs : q_sg (PC (FT (q_g s 286) (q_g s 290) (N / 2))) = PC (FT (q_g s 286) (q_g s 290) (N / 2)) := q_sg_id (by omega) (by omega)
    have g0 : ¬ PC (FT (q_g s 286) (q_g s 290) (N / 2)) ≤ 1 → EV (d + 39) 167 43 [.ref 1, .int (q_I (N / 2)), .int (q_I (FT (q_g s 286) (q_g s 290) (N / 2))), .int (q_I (-1)), .int (q_I (6)), .int (q_I (0)), .null] [] (q_h L xs (t) O c) = some (.inl (some (.int (q_I (q_it (loF (q_g s 286) (q_g s 290) (N / 2)) 100 (-1))))), q_h L xs (t) O c) := by
      intro _
      obtain ⟨w, f1, f2, f3⟩ := q_for (fun j (w : Int × Value) => EV (d + 39) 167 43 [.ref 1, .int (q_I (N / 2)), .int (q_I (FT (q_g s 286) (q_g s 290) (N / 2))), .int (q_I (w.1)), .int (q_I ((if w.1 = -1 then 6 else GG (q_g s 286) (q_g s 290) (N / 2) w.1))), .int (q_I (j)), w.2] [] (q_h L xs (t) O c)) (fun j w => w.1 = q_it (loF (q_g s 286) (q_g s 290) (N / 2)) j.toNat (-1) ∧ -1 ≤ w.1 ∧ w.1 < 100) (lo := 0) (hi := 100) (by omega) (fun j w a1 a2 ⟨ew, w0, w1⟩ => by
        have gp := cc_greatestPart (d := d + 37) (L := L) (xs := xs) (s := t) (O := O) (c := c) (m := q_g s 286) (Tp := q_g s 290) (R := N / 2) e3 a1 a2
        have r1 := GG_rg (q_g s 286) (q_g s 290) (N / 2) j
        have r2 := GG_rg (q_g s 286) (q_g s 290) (N / 2) w.1
        have lr := loF_rg (m := q_g s 286) (Tp := q_g s 290) (R := N / 2) a1 a2 ⟨w0, w1⟩
        refine ⟨(loF (q_g s 286) (q_g s 290) (N / 2) j w.1, .int (q_I (GG (q_g s 286) (q_g s 290) (N / 2) j))), ?_, by rw [q_it_1 _ a1, ew], by
          show -1 ≤ loF (q_g s 286) (q_g s 290) (N / 2) j w.1 ∧ loF (q_g s 286) (q_g s 290) (N / 2) j w.1 < 100
          omega⟩
        rw [R_167_43]
        unfold loF
        by_cases ex : w.1 = -1
        · simp (disch := first | omega | exact q_b_01 _) only [↓reduceIte, q_bk0, q_bk1, q_bk2, q_sg_b, q_b_0, q_b_n0, q_b_1, q_b_n1, q_b_T, q_b_F, q_sg_g, q_sg_sg, q_sg_xs, q_sg_id, q_gu_ne, q_gu_eq, q_g_fne, q_g_cpe, q_w_f, q_v_f, q_u_f, q_fn_f, q_cp_f, q_sg_pg, q_sg_hc, q_lt_t, q_lt_f, q_le_t, q_le_f, q_eq_t, q_eq_f, ne_eq, eq_self, Bool.false_eq_true, Bool.true_eq_false, not_true_eq_false, not_false_eq_true, true_and, and_true, false_and, and_false, true_or, or_true, false_or, or_false, if_true, if_false, Int.reduceAdd, Int.reduceMul, Int.reduceSub, Int.reduceNeg, ex, R_167_0, R_167_4, R_167_10, R_167_18, R_167_23, R_167_28, R_167_32, R_167_34, R_167_50, R_167_57, R_167_66, R_167_73, R_167_79, C_167_1, C_167_20, C_167_25, C_167_54, gp]
        · by_cases el : GG (q_g s 286) (q_g s 290) (N / 2) j < GG (q_g s 286) (q_g s 290) (N / 2) w.1
          · simp (disch := first | omega | exact q_b_01 _) only [↓reduceIte, q_bk0, q_bk1, q_bk2, q_sg_b, q_b_0, q_b_n0, q_b_1, q_b_n1, q_b_T, q_b_F, q_sg_g, q_sg_sg, q_sg_xs, q_sg_id, q_gu_ne, q_gu_eq, q_g_fne, q_g_cpe, q_w_f, q_v_f, q_u_f, q_fn_f, q_cp_f, q_sg_pg, q_sg_hc, q_lt_t, q_lt_f, q_le_t, q_le_f, q_eq_t, q_eq_f, ne_eq, eq_self, Bool.false_eq_true, Bool.true_eq_false, not_true_eq_false, not_false_eq_true, true_and, and_true, false_and, and_false, true_or, or_true, false_or, or_false, if_true, if_false, Int.reduceAdd, Int.reduceMul, Int.reduceSub, Int.reduceNeg, ex, el, R_167_0, R_167_4, R_167_10, R_167_18, R_167_23, R_167_28, R_167_32, R_167_34, R_167_50, R_167_57, R_167_66, R_167_73, R_167_79, C_167_1, C_167_20, C_167_25, C_167_54, gp]
          · simp (disch := first | omega | exact q_b_01 _) only [↓reduceIte, q_bk0, q_bk1, q_bk2, q_sg_b, q_b_0, q_b_n0, q_b_1, q_b_n1, q_b_T, q_b_F, q_sg_g, q_sg_sg, q_sg_xs, q_sg_id, q_gu_ne, q_gu_eq, q_g_fne, q_g_cpe, q_w_f, q_v_f, q_u_f, q_fn_f, q_cp_f, q_sg_pg, q_sg_hc, q_lt_t, q_lt_f, q_le_t, q_le_f, q_eq_t, q_eq_f, ne_eq, eq_self, Bool.false_eq_true, Bool.true_eq_false, not_true_eq_false, not_false_eq_true, true_and, and_true, false_and, and_false, true_or, or_true, false_or, or_false, if_true, if_false, Int.reduceAdd, Int.reduceMul, Int.reduceSub, Int.reduceNeg, ex, el, R_167_0, R_167_4, R_167_10, R_167_18, R_167_23, R_167_28, R_167_32, R_167_34, R_167_50, R_167_57, R_167_66, R_167_73, R_167_79, C_167_1, C_167_20, C_167_25, C_167_54, gp]) (t := (-1, .null)) ⟨rfl, by omega, by omega⟩
      refine Eq.trans f1 ?_
      rw [R_167_43, f2]
      simp (disch := first | omega | exact q_b_01 _) only [↓reduceIte, q_bk0, q_bk1, q_bk2, q_sg_b, q_b_0, q_b_n0, q_b_1, q_b_n1, q_b_T, q_b_F, q_sg_g, q_sg_sg, q_sg_xs, q_sg_id, q_gu_ne, q_gu_eq, q_g_fne, q_g_cpe, q_w_f, q_v_f, q_u_f, q_fn_f, q_cp_f, q_sg_pg, q_sg_hc, q_lt_t, q_lt_f, q_le_t, q_le_f, q_eq_t, q_eq_f, ne_eq, eq_self, Bool.false_eq_true, Bool.true_eq_false, not_true_eq_false, not_false_eq_true, true_and, and_true, false_and, and_false, true_or, or_true, false_or, or_false, if_true, if_false, Int.reduceAdd, Int.reduceMul, Int.reduceSub, Int.reduceNeg, R_167_0, R_167_4, R_167_10, R_167_18, R_167_23, R_167_28, R_167_32, R_167_34, R_167_50, R_167_57, R_167_66, R_167_73, R_167_79, C_167_1, C_167_20, C_167_25, C_167_54]
      rfl
    obtain ⟨_, hgood⟩ := mm_hears (d := d + 24) (L := L) (xs := xs) (s := t) (O := vp_updL O 0 (q_I (if PC (FT (q_g s 286) (q_g s 290) (N / 2)) ≤ 1 then -1 else q_it (loF (q_g s 286) (q_g s 290) (N / 2)) 100 (-1))).toInt64) (c := c) (m := q_g s 286) (Tp := q_g s 290) (N := N) (by
      funext z
      rw [tz 286 z (by omega), q_gu_ne (by omega)]) Hv (by rw [tz 285 8 (by omega), q_gu_ne (by omega)]; exact T.1) T.2.1 T.2.2.1 (fun k k0 k1 => by
      rw [tz 290 k (by omega), q_gu_ne (by omega)]
      exact ⟨rfl, (T.2.2.2 k k0 k1).2.1⟩)
    obtain ⟨u, g1, g2, g3⟩ := hgood ⟨h1, h2, h3⟩
    have u0 : q_g u 285 0 = 0 := by
      show (u 285 0).toInt = _
      rw [g2 285 0 (by omega) (by omega)]
      show q_g (q_u (q_u t 285 8 0) 285 0 0) 285 0 = 0
      rw [q_gu_eq rfl]
      rfl
    refine ⟨0, if PC (FT (q_g s 286) (q_g s 290) (N / 2)) ≤ 1 then -1 else q_it (loF (q_g s 286) (q_g s 290) (N / 2)) 100 (-1), t, u, vp_updL O 0 (q_I (if PC (FT (q_g s 286) (q_g s 290) (N / 2)) ≤ 1 then -1 else q_it (loF (q_g s 286) (q_g s 290) (N / 2)) 100 (-1))).toInt64, c, ?_, ?_, by omega, by omega, u0, fun _ => rfl, Or.inl rfl, ?_⟩
    · by_cases hp : PC (FT (q_g s 286) (q_g s 290) (N / 2)) ≤ 1
      · rw [if_pos hp]
        simp (disch := first | omega | exact q_b_01 _) only [↓reduceIte, q_bk0, q_bk1, q_bk2, q_sg_b, q_b_0, q_b_n0, q_b_1, q_b_n1, q_b_T, q_b_F, q_sg_g, q_sg_sg, q_sg_xs, q_sg_id, q_gu_ne, q_gu_eq, q_g_fne, q_g_cpe, q_w_f, q_v_f, q_u_f, q_fn_f, q_cp_f, q_sg_pg, q_sg_hc, q_lt_t, q_lt_f, q_le_t, q_le_f, q_eq_t, q_eq_f, ne_eq, eq_self, Bool.false_eq_true, Bool.true_eq_false, not_true_eq_false, not_false_eq_true, true_and, and_true, false_and, and_false, true_or, or_true, false_or, or_false, if_true, if_false, Int.reduceAdd, Int.reduceMul, Int.reduceSub, Int.reduceNeg, bs, bp.1, R_25_0, R_25_6, R_25_8, R_25_12, C_25_3, R_167_0, R_167_4, R_167_10, R_167_18, R_167_23, R_167_28, R_167_32, R_167_34, R_167_50, R_167_57, R_167_66, R_167_73, R_167_79, C_167_1, C_167_20, C_167_25, C_167_54, e1, e2, jj_bitCount, q_lst, K_25_0]
      · rw [if_neg hp]
        simp (disch := first | omega | exact q_b_01 _) only [↓reduceIte, q_bk0, q_bk1, q_bk2, q_sg_b, q_b_0, q_b_n0, q_b_1, q_b_n1, q_b_T, q_b_F, q_sg_g, q_sg_sg, q_sg_xs, q_sg_id, q_gu_ne, q_gu_eq, q_g_fne, q_g_cpe, q_w_f, q_v_f, q_u_f, q_fn_f, q_cp_f, q_sg_pg, q_sg_hc, q_lt_t, q_lt_f, q_le_t, q_le_f, q_eq_t, q_eq_f, ne_eq, eq_self, Bool.false_eq_true, Bool.true_eq_false, not_true_eq_false, not_false_eq_true, true_and, and_true, false_and, and_false, true_or, or_true, false_or, or_false, if_true, if_false, Int.reduceAdd, Int.reduceMul, Int.reduceSub, Int.reduceNeg, bs, bp.1, g0 hp, R_25_0, R_25_6, R_25_8, R_25_12, C_25_3, R_167_0, R_167_4, R_167_10, R_167_18, R_167_23, R_167_28, R_167_32, R_167_34, R_167_50, R_167_57, R_167_66, R_167_73, R_167_79, C_167_1, C_167_20, C_167_25, C_167_54, e1, e2, jj_bitCount, q_lst, K_25_0]
    · generalize hOO : vp_updL O 0 (q_I (if PC (FT (q_g s 286) (q_g s 290) (N / 2)) ≤ 1 then -1 else q_it (loF (q_g s 286) (q_g s 290) (N / 2)) 100 (-1))).toInt64 = OO at *
      simp (disch := first | omega | exact q_b_01 _) only [↓reduceIte, q_bk0, q_bk1, q_bk2, q_sg_b, q_b_0, q_b_n0, q_b_1, q_b_n1, q_b_T, q_b_F, q_sg_g, q_sg_sg, q_sg_xs, q_sg_id, q_gu_ne, q_gu_eq, q_g_fne, q_g_cpe, q_w_f, q_v_f, q_u_f, q_fn_f, q_cp_f, q_sg_pg, q_sg_hc, q_lt_t, q_lt_f, q_le_t, q_le_f, q_eq_t, q_eq_f, ne_eq, eq_self, Bool.false_eq_true, Bool.true_eq_false, not_true_eq_false, not_false_eq_true, true_and, and_true, false_and, and_false, true_or, or_true, false_or, or_false, if_true, if_false, Int.reduceAdd, Int.reduceMul, Int.reduceSub, Int.reduceNeg, u0, R_331_0, R_331_4, R_331_12, R_331_14, R_331_29, R_331_33, R_331_37, R_331_49, R_331_61, R_331_69, R_331_72, R_331_78, R_331_81, R_331_94, R_331_107, R_331_110, R_331_114, R_331_115, R_331_124, R_331_131, R_331_139, R_331_145, R_331_148, R_331_154, R_331_160, C_331_1, C_331_30, C_331_66, C_331_75, C_331_128, g1]
      by_cases hp : PC (FT (q_g s 286) (q_g s 290) (N / 2)) ≤ 1
      · rw [if_pos hp, R_331_22]
        simp (disch := first | omega | exact q_b_01 _) only [↓reduceIte, q_bk0, q_bk1, q_bk2, q_sg_b, q_b_0, q_b_n0, q_b_1, q_b_n1, q_b_T, q_b_F, q_sg_g, q_sg_sg, q_sg_xs, q_sg_id, q_gu_ne, q_gu_eq, q_g_fne, q_g_cpe, q_w_f, q_v_f, q_u_f, q_fn_f, q_cp_f, q_sg_pg, q_sg_hc, q_lt_t, q_lt_f, q_le_t, q_le_f, q_eq_t, q_eq_f, ne_eq, eq_self, Bool.false_eq_true, Bool.true_eq_false, not_true_eq_false, not_false_eq_true, true_and, and_true, false_and, and_false, true_or, or_true, false_or, or_false, if_true, if_false, Int.reduceAdd, Int.reduceMul, Int.reduceSub, Int.reduceNeg, bs, R_331_0, R_331_4, R_331_12, R_331_14, R_331_29, R_331_33, R_331_37, R_331_49, R_331_61, R_331_69, R_331_72, R_331_78, R_331_81, R_331_94, R_331_107, R_331_110, R_331_114, R_331_115, R_331_124, R_331_131, R_331_139, R_331_145, R_331_148, R_331_154, R_331_160, C_331_1, C_331_30, C_331_66, C_331_75, C_331_128, mm_bits]
      · rw [if_neg hp]
        obtain ⟨w, f1, f2, f3⟩ := q_for (fun j (w : Int × Value × Value × Value × Value) => EV (d + 40) 331 22 [.ref 285, .int (q_I (FT (q_g s 286) (q_g s 290) (N / 2))), .int (q_I w.1), .int (q_I (if w.1 = -1 then 2000000000 else GG (q_g s 286) (q_g s 290) (N / 2) w.1)), .int (q_I j), w.2.1, w.2.2.1, w.2.2.2.1, w.2.2.2.2] [] (q_h L xs u OO c)) (fun j w => w.1 = q_it (loF (q_g s 286) (q_g s 290) (N / 2)) j.toNat (-1) ∧ -1 ≤ w.1 ∧ w.1 < 100) (lo := 0) (hi := 100) (by omega) (fun j w a1 a2 ⟨ew, w0, w1⟩ => by
          obtain ⟨p7, p8, gp⟩ := mm_lookM (d := d + 39) (L := L) (xs := xs) (s := u) (O := OO) (c := c) (m := q_g s 286) (Tp := q_g s 290) (R := N / 2) (found := w.1) (least := if w.1 = -1 then 2000000000 else GG (q_g s 286) (q_g s 290) (N / 2) w.1) (fun v v0 v1 hv => (g3 v v0 v1 hv).2) a1 a2 w.2.2.2.1 w.2.2.2.2
          have r1 := GG_rg (q_g s 286) (q_g s 290) (N / 2) j
          have r2 := GG_rg (q_g s 286) (q_g s 290) (N / 2) w.1
          have lr := loF_rg (m := q_g s 286) (Tp := q_g s 290) (R := N / 2) a1 a2 ⟨w0, w1⟩
          refine ⟨(loF (q_g s 286) (q_g s 290) (N / 2) j w.1, .int (q_I (GG (q_g s 286) (q_g s 290) (N / 2) j)), .int (q_I 5), p7, p8), ?_, by rw [q_it_1 _ a1, ew], by
            show -1 ≤ loF (q_g s 286) (q_g s 290) (N / 2) j w.1 ∧ loF (q_g s 286) (q_g s 290) (N / 2) j w.1 < 100
            omega⟩
          rw [R_331_22]
          unfold loF
          by_cases ex : w.1 = -1
          · rw [if_pos ex] at gp ⊢
            simp (disch := first | omega | exact q_b_01 _) only [↓reduceIte, q_bk0, q_bk1, q_bk2, q_sg_b, q_b_0, q_b_n0, q_b_1, q_b_n1, q_b_T, q_b_F, q_sg_g, q_sg_sg, q_sg_xs, q_sg_id, q_gu_ne, q_gu_eq, q_g_fne, q_g_cpe, q_w_f, q_v_f, q_u_f, q_fn_f, q_cp_f, q_sg_pg, q_sg_hc, q_lt_t, q_lt_f, q_le_t, q_le_f, q_eq_t, q_eq_f, ne_eq, eq_self, Bool.false_eq_true, Bool.true_eq_false, not_true_eq_false, not_false_eq_true, true_and, and_true, false_and, and_false, true_or, or_true, false_or, or_false, if_true, if_false, Int.reduceAdd, Int.reduceMul, Int.reduceSub, Int.reduceNeg, bs, gp, R_331_0, R_331_4, R_331_12, R_331_14, R_331_29, R_331_33, R_331_37, R_331_49, R_331_61, R_331_69, R_331_72, R_331_78, R_331_81, R_331_94, R_331_107, R_331_110, R_331_114, R_331_115, R_331_124, R_331_131, R_331_139, R_331_145, R_331_148, R_331_154, R_331_160, C_331_1, C_331_30, C_331_66, C_331_75, C_331_128, mm_bits]
          · rw [if_neg ex] at gp ⊢
            by_cases el : GG (q_g s 286) (q_g s 290) (N / 2) j < GG (q_g s 286) (q_g s 290) (N / 2) w.1
            · simp (disch := first | omega | exact q_b_01 _) only [↓reduceIte, q_bk0, q_bk1, q_bk2, q_sg_b, q_b_0, q_b_n0, q_b_1, q_b_n1, q_b_T, q_b_F, q_sg_g, q_sg_sg, q_sg_xs, q_sg_id, q_gu_ne, q_gu_eq, q_g_fne, q_g_cpe, q_w_f, q_v_f, q_u_f, q_fn_f, q_cp_f, q_sg_pg, q_sg_hc, q_lt_t, q_lt_f, q_le_t, q_le_f, q_eq_t, q_eq_f, ne_eq, eq_self, Bool.false_eq_true, Bool.true_eq_false, not_true_eq_false, not_false_eq_true, true_and, and_true, false_and, and_false, true_or, or_true, false_or, or_false, if_true, if_false, Int.reduceAdd, Int.reduceMul, Int.reduceSub, Int.reduceNeg, bs, gp, ex, el, R_331_0, R_331_4, R_331_12, R_331_14, R_331_29, R_331_33, R_331_37, R_331_49, R_331_61, R_331_69, R_331_72, R_331_78, R_331_81, R_331_94, R_331_107, R_331_110, R_331_114, R_331_115, R_331_124, R_331_131, R_331_139, R_331_145, R_331_148, R_331_154, R_331_160, C_331_1, C_331_30, C_331_66, C_331_75, C_331_128, mm_bits]
            · simp (disch := first | omega | exact q_b_01 _) only [↓reduceIte, q_bk0, q_bk1, q_bk2, q_sg_b, q_b_0, q_b_n0, q_b_1, q_b_n1, q_b_T, q_b_F, q_sg_g, q_sg_sg, q_sg_xs, q_sg_id, q_gu_ne, q_gu_eq, q_g_fne, q_g_cpe, q_w_f, q_v_f, q_u_f, q_fn_f, q_cp_f, q_sg_pg, q_sg_hc, q_lt_t, q_lt_f, q_le_t, q_le_f, q_eq_t, q_eq_f, ne_eq, eq_self, Bool.false_eq_true, Bool.true_eq_false, not_true_eq_false, not_false_eq_true, true_and, and_true, false_and, and_false, true_or, or_true, false_or, or_false, if_true, if_false, Int.reduceAdd, Int.reduceMul, Int.reduceSub, Int.reduceNeg, bs, gp, ex, el, R_331_0, R_331_4, R_331_12, R_331_14, R_331_29, R_331_33, R_331_37, R_331_49, R_331_61, R_331_69, R_331_72, R_331_78, R_331_81, R_331_94, R_331_107, R_331_110, R_331_114, R_331_115, R_331_124, R_331_131, R_331_139, R_331_145, R_331_148, R_331_154, R_331_160, C_331_1, C_331_30, C_331_66, C_331_75, C_331_128, mm_bits]) (t := (-1, .null, .null, .null, .null)) ⟨rfl, by omega, by omega⟩
        refine Eq.trans f1 ?_
        rw [R_331_22, f2]
        simp (disch := first | omega | exact q_b_01 _) only [↓reduceIte, q_bk0, q_bk1, q_bk2, q_sg_b, q_b_0, q_b_n0, q_b_1, q_b_n1, q_b_T, q_b_F, q_sg_g, q_sg_sg, q_sg_xs, q_sg_id, q_gu_ne, q_gu_eq, q_g_fne, q_g_cpe, q_w_f, q_v_f, q_u_f, q_fn_f, q_cp_f, q_sg_pg, q_sg_hc, q_lt_t, q_lt_f, q_le_t, q_le_f, q_eq_t, q_eq_f, ne_eq, eq_self, Bool.false_eq_true, Bool.true_eq_false, not_true_eq_false, not_false_eq_true, true_and, and_true, false_and, and_false, true_or, or_true, false_or, or_false, if_true, if_false, Int.reduceAdd, Int.reduceMul, Int.reduceSub, Int.reduceNeg, R_331_0, R_331_4, R_331_12, R_331_14, R_331_29, R_331_33, R_331_37, R_331_49, R_331_61, R_331_69, R_331_72, R_331_78, R_331_81, R_331_94, R_331_107, R_331_110, R_331_114, R_331_115, R_331_124, R_331_131, R_331_139, R_331_145, R_331_148, R_331_154, R_331_160, C_331_1, C_331_30, C_331_66, C_331_75, C_331_128]
        rfl
    · refine Big_used B (fun k z hz hn => ?_) ?_ ?_
      · rw [g2 k z (by unfold relz relc at hz; omega) (by unfold relz relc at hz; omega), q_u_n (by unfold relz relc at hz; omega), q_u_n (by omega), e4 k (by unfold relz relc at hz; omega), q_u_n (by omega)]
      · show (u 285 8).toInt = _
        rw [g2 285 8 (by omega) (by omega), q_u_n (by omega)]
        show q_g (q_u t 285 8 0) 285 8 = 0
        rw [q_gu_eq rfl]
        rfl
      · show (u 2 1).toInt = _
        rw [g2 2 1 (by omega) (by omega), q_u_n (by omega), q_u_n (by omega)]
        show q_g t 2 1 = 0
        rw [tz 2 1 (by omega), q_gu_eq rfl]
        rfl
  · obtain ⟨hbad, _⟩ := mm_hears (d := d + 24) (L := L) (xs := xs) (s := q_u s 2 1 0) (O := O) (c := q_th c) (m := q_g s 286) (Tp := q_g s 290) (N := N) (q_u_f (by decide)) Hv (by rw [q_gu_ne (by omega)]; exact T.1) T.2.1 T.2.2.1 (fun k k0 k1 => by
      rw [q_gu_ne (by omega)]
      exact ⟨rfl, (T.2.2.2 k k0 k1).2.1⟩)
    have g1 := hbad h1
    refine ⟨1, 0, q_u s 2 1 0, q_u (q_u (q_u s 2 1 0) 285 8 0) 285 0 1, O, q_th c, ?_, ?_, by omega, by omega, ?_, fun h => absurd h (by omega), Or.inr rfl, ?_⟩
    · simp (disch := first | omega | exact q_b_01 _) only [↓reduceIte, q_bk0, q_bk1, q_bk2, q_sg_b, q_b_0, q_b_n0, q_b_1, q_b_n1, q_b_T, q_b_F, q_sg_g, q_sg_sg, q_sg_xs, q_sg_id, q_gu_ne, q_gu_eq, q_g_fne, q_g_cpe, q_w_f, q_v_f, q_u_f, q_fn_f, q_cp_f, q_sg_pg, q_sg_hc, q_lt_t, q_lt_f, q_le_t, q_le_f, q_eq_t, q_eq_f, ne_eq, eq_self, Bool.false_eq_true, Bool.true_eq_false, not_true_eq_false, not_false_eq_true, true_and, and_true, false_and, and_false, true_or, or_true, false_or, or_false, if_true, if_false, Int.reduceAdd, Int.reduceMul, Int.reduceSub, Int.reduceNeg, R_25_0, R_25_6, R_25_8, R_25_12, C_25_3, R_167_0, R_167_4, R_167_10, R_167_18, R_167_23, R_167_28, R_167_32, R_167_34, R_167_50, R_167_57, R_167_66, R_167_73, R_167_79, C_167_1, C_167_20, C_167_25, C_167_54, e1, K_25_0]
    · simp (disch := first | omega | exact q_b_01 _) only [↓reduceIte, q_bk0, q_bk1, q_bk2, q_sg_b, q_b_0, q_b_n0, q_b_1, q_b_n1, q_b_T, q_b_F, q_sg_g, q_sg_sg, q_sg_xs, q_sg_id, q_gu_ne, q_gu_eq, q_g_fne, q_g_cpe, q_w_f, q_v_f, q_u_f, q_fn_f, q_cp_f, q_sg_pg, q_sg_hc, q_lt_t, q_lt_f, q_le_t, q_le_f, q_eq_t, q_eq_f, ne_eq, eq_self, Bool.false_eq_true, Bool.true_eq_false, not_true_eq_false, not_false_eq_true, true_and, and_true, false_and, and_false, true_or, or_true, false_or, or_false, if_true, if_false, Int.reduceAdd, Int.reduceMul, Int.reduceSub, Int.reduceNeg, R_331_0, R_331_4, R_331_12, R_331_14, R_331_29, R_331_33, R_331_37, R_331_49, R_331_61, R_331_69, R_331_72, R_331_78, R_331_81, R_331_94, R_331_107, R_331_110, R_331_114, R_331_115, R_331_124, R_331_131, R_331_139, R_331_145, R_331_148, R_331_154, R_331_160, C_331_1, C_331_30, C_331_66, C_331_75, C_331_128, g1]
    · rw [q_gu_eq rfl]
      rfl
    · refine Big_used B (SmT_u (SmT_u (SmT_u (fun _ _ _ _ => rfl) (by omega)) (by omega)) (by unfold relz relc; omega)) ?_ ?_
      · rw [q_gu_ne (by omega), q_gu_eq rfl]
        rfl
      · rw [q_gu_ne (by omega), q_gu_ne (by omega), q_gu_eq rfl]
        rfl
end LO
