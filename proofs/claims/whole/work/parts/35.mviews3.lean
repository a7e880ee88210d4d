/-! THE REFERENCE: marks, values and sizes of all views -/
section MV3
variable {d L : Nat} {xs : Nat → Int32} {s : Nat → Int → Int32} {O : Nat → Int64} {c : Bool × Nat × Nat}
theorem mm_isViewV {v : Int} (h1 : 0 ≤ v) (h2 : v < 5) : EV (d + 1) 289 0 [.ref 285, .int (q_I (v))] [] (q_h L xs s O c) = some (.inl (some (.int (q_I (q_b (vo (q_g s 286) v = true))))), q_h L xs (s) O c) := by
  rw [mm_isView (by omega) (by omega)]
  refine q_Rb ?_
  unfold vo
  rw [Bool.or_eq_true, decide_eq_true_iff, decide_eq_true_iff]
  refine ⟨fun h => h.imp id (fun x => x.2.2), fun h => ?_⟩
  by_cases e : v = 4
  · exact Or.inl e
  · exact Or.inr ⟨h1, by omega, h.resolve_left e⟩
theorem mm_rootOfV {v : Int} (h1 : 0 ≤ v) (h2 : v < 5) : EV (d + 2) 288 0 [.ref 285, .int (q_I (v))] [] (q_h L xs s O c) = some (.inl (some (.int (q_I (vr (q_g s 286) v)))), q_h L xs (s) O c) := mm_rootOf h1 h2
theorem mm_marksR {Lv : Int → Prop} {r b : Int} (T : TreeD (q_g s 286) 48 Lv r) (W : Int → Int32) : ∃ W', EV (d + 13) 290 0 [.ref 285, .int (q_I (r)), .int (q_I (b)), .null] [] (q_h L xs (q_v s 307 0 48 W) O c) = some (.inl none, q_h L xs (q_v s 307 0 48 W') O c) ∧ ∀ q, W' q = if (decide (r ≠ -1) && Inb (q_g s 286) 13 r q) = true then q_I (q_or (W q).toInt b) else W q := by
  rcases T with ⟨e, -⟩ | ⟨n, ht, hb, hn, T, -, -⟩
  · subst e
    refine ⟨W, ?_, fun q => ?_⟩
    · simp (disch := first | omega | exact q_b_01 _) only [↓reduceIte, q_bk0, q_bk1, q_bk2, q_sg_b, q_b_0, q_b_n0, q_b_1, q_b_n1, q_b_T, q_b_F, q_sg_g, q_sg_sg, q_sg_xs, q_sg_id, q_gu_ne, q_gu_eq, q_g_fne, q_g_cpe, q_w_f, q_v_f, q_u_f, q_fn_f, q_cp_f, q_sg_pg, q_sg_hc, q_lt_t, q_lt_f, q_le_t, q_le_f, q_eq_t, q_eq_f, ne_eq, eq_self, Bool.false_eq_true, Bool.true_eq_false, not_true_eq_false, not_false_eq_true, true_and, and_true, false_and, and_false, true_or, or_true, false_or, or_false, if_true, if_false, Int.reduceAdd, Int.reduceMul, Int.reduceSub, Int.reduceNeg, R_290_0, R_290_5, R_290_6, R_290_13, R_290_16, R_290_25, R_290_28, R_290_34, R_290_38, R_290_48, R_290_52, R_290_58, C_290_22, C_290_31, C_290_45, C_290_49]
    · rw [if_neg]
      simp
  · have R := td_rng T (td_root T).1
    obtain ⟨W', e1, e2, e3⟩ := mm_marks (L := L) (xs := xs) (O := O) (c := c) T (by omega) (b := b) n (d + (12 - n)) W (td_root T).1 (td_root T).2
    rw [show d + (12 - n) + n + 1 = d + 13 by omega] at e1
    refine ⟨W', e1, fun q => ?_⟩
    have i := cn_in T n 13 q (td_root T).1 (td_root T).2 (by omega)
    have hr : decide (r ≠ -1) = true := decide_eq_true (by omega)
    by_cases h : Inb (q_g s 286) 13 r q = true
    · rw [if_pos (by rw [hr, h]; rfl), e2 q (i.mp h)]
    · rw [if_neg (by rw [hr]; simpa using h), e3 q (fun x => h (i.mpr x))]
theorem mm_fillsR {Lv : Int → Prop} {r f : Int} (T : TreeD (q_g s 286) 48 Lv r) (f0 : 0 ≤ f) (f1 : f ≤ 400) (V : Int → Int32) : EV (d + 13) 292 0 [.ref 285, .int (q_I (r)), .int (q_I (f)), .null] [] (q_h L xs (q_v s 308 f 100 V) O c) = some (.inl none, q_h L xs (q_v s 308 f 100 (if r = -1 then V else VFx (q_g s 286) 13 r V)) O c) := by
  rcases T with ⟨e, -⟩ | ⟨n, ht, hb, hn, T, -, -⟩
  · subst e
    simp (disch := first | omega | exact q_b_01 _) only [↓reduceIte, q_bk0, q_bk1, q_bk2, q_sg_b, q_b_0, q_b_n0, q_b_1, q_b_n1, q_b_T, q_b_F, q_sg_g, q_sg_sg, q_sg_xs, q_sg_id, q_gu_ne, q_gu_eq, q_g_fne, q_g_cpe, q_w_f, q_v_f, q_u_f, q_fn_f, q_cp_f, q_sg_pg, q_sg_hc, q_lt_t, q_lt_f, q_le_t, q_le_f, q_eq_t, q_eq_f, ne_eq, eq_self, Bool.false_eq_true, Bool.true_eq_false, not_true_eq_false, not_false_eq_true, true_and, and_true, false_and, and_false, true_or, or_true, false_or, or_false, if_true, if_false, Int.reduceAdd, Int.reduceMul, Int.reduceSub, Int.reduceNeg, R_292_0, R_292_5, R_292_6, R_292_15, R_292_18, R_292_24, R_292_28, R_292_38, R_292_42, R_292_45, R_292_58, R_292_68, R_292_69, R_292_75, C_292_12, C_292_21, C_292_35, C_292_39, C_292_55, C_292_65]
  · have R := td_rng T (td_root T).1
    have e1 := mm_fills (L := L) (xs := xs) (O := O) (c := c) T (by omega) f0 f1 n (d + (12 - n)) V (td_root T).1 (td_root T).2
    rw [show d + (12 - n) + n + 1 = d + 13 by omega] at e1
    rw [e1, if_neg (by omega), cn_vf T n 13 V (td_root T).1 (td_root T).2 (by omega)]
theorem mm_allMarks (Hv : Vw (q_g s 286)) : EV (d + 14) 291 0 [.ref 285, .null] [] (q_h L xs s O c) = some (.inl none, q_h L xs (q_v s 307 0 48 (fun q => q_I (mk (q_g s 286) q))) O c) := by
  simp (disch := first | omega | exact q_b_01 _) only [↓reduceIte, q_bk0, q_bk1, q_bk2, q_sg_b, q_b_0, q_b_n0, q_b_1, q_b_n1, q_b_T, q_b_F, q_sg_g, q_sg_sg, q_sg_xs, q_sg_id, q_gu_ne, q_gu_eq, q_g_fne, q_g_cpe, q_w_f, q_v_f, q_u_f, q_fn_f, q_cp_f, q_sg_pg, q_sg_hc, q_lt_t, q_lt_f, q_le_t, q_le_f, q_eq_t, q_eq_f, ne_eq, eq_self, Bool.false_eq_true, Bool.true_eq_false, not_true_eq_false, not_false_eq_true, true_and, and_true, false_and, and_false, true_or, or_true, false_or, or_false, if_true, if_false, Int.reduceAdd, Int.reduceMul, Int.reduceSub, Int.reduceNeg, R_291_0, R_291_8, R_291_15, R_291_21, R_291_28, R_291_33, R_291_36, R_291_42, R_291_48, R_291_54, C_291_30, C_291_39, C_291_45]
  refine (q_v_fl (fun j s => EV (d + 14) 291 2 [.ref 285, .int (q_I (j))] [] (q_h L xs s O c)) s 307 (fun _ => 0) (lo := 0) (n := 48) (by omega) (fun j W h1 h2 => ?_)).trans ?_
  · refine ⟨0, ?_, rfl⟩
    rw [R_291_2]
    simp (disch := first | omega | exact q_b_01 _) only [↓reduceIte, q_bk0, q_bk1, q_bk2, q_sg_b, q_b_0, q_b_n0, q_b_1, q_b_n1, q_b_T, q_b_F, q_sg_g, q_sg_sg, q_sg_xs, q_sg_id, q_gu_ne, q_gu_eq, q_g_fne, q_g_cpe, q_w_f, q_v_f, q_u_f, q_fn_f, q_cp_f, q_sg_pg, q_sg_hc, q_lt_t, q_lt_f, q_le_t, q_le_f, q_eq_t, q_eq_f, ne_eq, eq_self, Bool.false_eq_true, Bool.true_eq_false, not_true_eq_false, not_false_eq_true, true_and, and_true, false_and, and_false, true_or, or_true, false_or, or_false, if_true, if_false, Int.reduceAdd, Int.reduceMul, Int.reduceSub, Int.reduceNeg, Int.zero_add, R_291_0, R_291_8, R_291_15, R_291_21, R_291_28, R_291_33, R_291_36, R_291_42, R_291_48, R_291_54, C_291_30, C_291_39, C_291_45]
  · rw [R_291_2]
    simp (disch := first | omega | exact q_b_01 _) only [↓reduceIte, q_bk0, q_bk1, q_bk2, q_sg_b, q_b_0, q_b_n0, q_b_1, q_b_n1, q_b_T, q_b_F, q_sg_g, q_sg_sg, q_sg_xs, q_sg_id, q_gu_ne, q_gu_eq, q_g_fne, q_g_cpe, q_w_f, q_v_f, q_u_f, q_fn_f, q_cp_f, q_sg_pg, q_sg_hc, q_lt_t, q_lt_f, q_le_t, q_le_f, q_eq_t, q_eq_f, ne_eq, eq_self, Bool.false_eq_true, Bool.true_eq_false, not_true_eq_false, not_false_eq_true, true_and, and_true, false_and, and_false, true_or, or_true, false_or, or_false, if_true, if_false, Int.reduceAdd, Int.reduceMul, Int.reduceSub, Int.reduceNeg, R_291_0, R_291_8, R_291_15, R_291_21, R_291_28, R_291_33, R_291_36, R_291_42, R_291_48, R_291_54, C_291_30, C_291_39, C_291_45]
    obtain ⟨t, e1, e2⟩ := q_for (fun v W => EV (d + 14) 291 23 [.ref 285, .int (q_I (v))] [] (q_h L xs (q_v s 307 0 48 W) O c)) (fun v W => ∀ q, W q = q_I (q_it (fun v x => if iv (q_g s 286) v q = true then q_or x (q_shl 1 v) else x) v.toNat 0)) (lo := 0) (hi := 5) (by omega) (fun v W h1 h2 eW => by
      obtain ⟨Lv, T⟩ := Hv v h1 h2
      by_cases evo : vo (q_g s 286) v = true
      · have eve : ve (q_g s 286) v = vr (q_g s 286) v := if_pos evo
        obtain ⟨W', i1, i2⟩ := mm_marksR (d := d) (L := L) (xs := xs) (O := O) (c := c) (b := q_shl 1 v) T W
        refine ⟨W', ?_, fun q => ?_⟩
        · rw [eve] at i1
          rw [R_291_23]
          simp (disch := first | omega | exact q_b_01 _) only [↓reduceIte, q_bk0, q_bk1, q_bk2, q_sg_b, q_b_0, q_b_n0, q_b_1, q_b_n1, q_b_T, q_b_F, q_sg_g, q_sg_sg, q_sg_xs, q_sg_id, q_gu_ne, q_gu_eq, q_g_fne, q_g_cpe, q_w_f, q_v_f, q_u_f, q_fn_f, q_cp_f, q_sg_pg, q_sg_hc, q_lt_t, q_lt_f, q_le_t, q_le_f, q_eq_t, q_eq_f, ne_eq, eq_self, Bool.false_eq_true, Bool.true_eq_false, not_true_eq_false, not_false_eq_true, true_and, and_true, false_and, and_false, true_or, or_true, false_or, or_false, if_true, if_false, Int.reduceAdd, Int.reduceMul, Int.reduceSub, Int.reduceNeg, evo, R_291_0, R_291_8, R_291_15, R_291_21, R_291_28, R_291_33, R_291_36, R_291_42, R_291_48, R_291_54, C_291_30, C_291_39, C_291_45, mm_isViewV, mm_rootOfV, i1]
        · rw [i2 q, q_it_1 _ h1]
          rw [eW q]
          show (if iv (q_g s 286) v q = true then _ else _) = _
          split
          · refine congrArg q_I ?_
            unfold q_or
            rw [q_sgI, q_I_sg]
          · rfl
      · have eve : ve (q_g s 286) v = -1 := if_neg evo
        refine ⟨W, ?_, fun q => ?_⟩
        · rw [R_291_23]
          simp (disch := first | omega | exact q_b_01 _) only [↓reduceIte, q_bk0, q_bk1, q_bk2, q_sg_b, q_b_0, q_b_n0, q_b_1, q_b_n1, q_b_T, q_b_F, q_sg_g, q_sg_sg, q_sg_xs, q_sg_id, q_gu_ne, q_gu_eq, q_g_fne, q_g_cpe, q_w_f, q_v_f, q_u_f, q_fn_f, q_cp_f, q_sg_pg, q_sg_hc, q_lt_t, q_lt_f, q_le_t, q_le_f, q_eq_t, q_eq_f, ne_eq, eq_self, Bool.false_eq_true, Bool.true_eq_false, not_true_eq_false, not_false_eq_true, true_and, and_true, false_and, and_false, true_or, or_true, false_or, or_false, if_true, if_false, Int.reduceAdd, Int.reduceMul, Int.reduceSub, Int.reduceNeg, evo, R_291_0, R_291_8, R_291_15, R_291_21, R_291_28, R_291_33, R_291_36, R_291_42, R_291_48, R_291_54, C_291_30, C_291_39, C_291_45, mm_isViewV, mm_rootOfV]
        · rw [eW q, q_it_1 _ h1, if_neg]
          unfold iv
          rw [eve]
          simp) (t := fun _ => q_I 0) (fun q => rfl)
    refine Eq.trans e1 ?_
    rw [R_291_23]
    simp (disch := first | omega | exact q_b_01 _) only [↓reduceIte, q_bk0, q_bk1, q_bk2, q_sg_b, q_b_0, q_b_n0, q_b_1, q_b_n1, q_b_T, q_b_F, q_sg_g, q_sg_sg, q_sg_xs, q_sg_id, q_gu_ne, q_gu_eq, q_g_fne, q_g_cpe, q_w_f, q_v_f, q_u_f, q_fn_f, q_cp_f, q_sg_pg, q_sg_hc, q_lt_t, q_lt_f, q_le_t, q_le_f, q_eq_t, q_eq_f, ne_eq, eq_self, Bool.false_eq_true, Bool.true_eq_false, not_true_eq_false, not_false_eq_true, true_and, and_true, false_and, and_false, true_or, or_true, false_or, or_false, if_true, if_false, Int.reduceAdd, Int.reduceMul, Int.reduceSub, Int.reduceNeg, R_291_0, R_291_8, R_291_15, R_291_21, R_291_28, R_291_33, R_291_36, R_291_42, R_291_48, R_291_54, C_291_30, C_291_39, C_291_45]
    rw [show t = fun q => q_I (mk (q_g s 286) q) from funext e2]
theorem mm_allValues (Hv : Vw (q_g s 286)) {v : Int} (h1 : 0 ≤ v) (h2 : v < 5) : EV (d + 14) 293 0 [.ref 285, .int (q_I (v)), .null] [] (q_h L xs s O c) = some (.inl none, q_h L xs (q_v s 308 (100 * v) 100 (VV (q_g s 286) v)) O c) := by
  simp (disch := first | omega | exact q_b_01 _) only [↓reduceIte, q_bk0, q_bk1, q_bk2, q_sg_b, q_b_0, q_b_n0, q_b_1, q_b_n1, q_b_T, q_b_F, q_sg_g, q_sg_sg, q_sg_xs, q_sg_id, q_gu_ne, q_gu_eq, q_g_fne, q_g_cpe, q_w_f, q_v_f, q_u_f, q_fn_f, q_cp_f, q_sg_pg, q_sg_hc, q_lt_t, q_lt_f, q_le_t, q_le_f, q_eq_t, q_eq_f, ne_eq, eq_self, Bool.false_eq_true, Bool.true_eq_false, not_true_eq_false, not_false_eq_true, true_and, and_true, false_and, and_false, true_or, or_true, false_or, or_false, if_true, if_false, Int.reduceAdd, Int.reduceMul, Int.reduceSub, Int.reduceNeg, R_293_0, R_293_8, R_293_20, R_293_26, R_293_31, R_293_34, R_293_40, R_293_47, C_293_28, C_293_37, C_293_44]
  refine (q_v_fl (fun j s => EV (d + 14) 293 2 [.ref 285, .int (q_I (v)), .int (q_I (j))] [] (q_h L xs s O c)) s 308 (fun _ => -1) (lo := 100 * v) (n := 100) (by omega) (fun j W h1 h2 => ?_)).trans ?_
  · refine ⟨-1, ?_, rfl⟩
    rw [R_293_2]
    simp (disch := first | omega | exact q_b_01 _) only [↓reduceIte, q_bk0, q_bk1, q_bk2, q_sg_b, q_b_0, q_b_n0, q_b_1, q_b_n1, q_b_T, q_b_F, q_sg_g, q_sg_sg, q_sg_xs, q_sg_id, q_gu_ne, q_gu_eq, q_g_fne, q_g_cpe, q_w_f, q_v_f, q_u_f, q_fn_f, q_cp_f, q_sg_pg, q_sg_hc, q_lt_t, q_lt_f, q_le_t, q_le_f, q_eq_t, q_eq_f, ne_eq, eq_self, Bool.false_eq_true, Bool.true_eq_false, not_true_eq_false, not_false_eq_true, true_and, and_true, false_and, and_false, true_or, or_true, false_or, or_false, if_true, if_false, Int.reduceAdd, Int.reduceMul, Int.reduceSub, Int.reduceNeg, R_293_0, R_293_8, R_293_20, R_293_26, R_293_31, R_293_34, R_293_40, R_293_47, C_293_28, C_293_37, C_293_44]
  · rw [R_293_2]
    obtain ⟨Lv, T⟩ := Hv v h1 h2
    by_cases evo : vo (q_g s 286) v = true
    · have eve : ve (q_g s 286) v = vr (q_g s 286) v := if_pos evo
      have i1 := mm_fillsR (d := d) (L := L) (xs := xs) (O := O) (c := c) (f := 100 * v) T (by omega) (by omega) (fun _ => q_I (-1))
      rw [eve] at i1
      simp (disch := first | omega | exact q_b_01 _) only [↓reduceIte, q_bk0, q_bk1, q_bk2, q_sg_b, q_b_0, q_b_n0, q_b_1, q_b_n1, q_b_T, q_b_F, q_sg_g, q_sg_sg, q_sg_xs, q_sg_id, q_gu_ne, q_gu_eq, q_g_fne, q_g_cpe, q_w_f, q_v_f, q_u_f, q_fn_f, q_cp_f, q_sg_pg, q_sg_hc, q_lt_t, q_lt_f, q_le_t, q_le_f, q_eq_t, q_eq_f, ne_eq, eq_self, Bool.false_eq_true, Bool.true_eq_false, not_true_eq_false, not_false_eq_true, true_and, and_true, false_and, and_false, true_or, or_true, false_or, or_false, if_true, if_false, Int.reduceAdd, Int.reduceMul, Int.reduceSub, Int.reduceNeg, evo, R_293_0, R_293_8, R_293_20, R_293_26, R_293_31, R_293_34, R_293_40, R_293_47, C_293_28, C_293_37, C_293_44, mm_isViewV, mm_rootOfV, i1]
      unfold VV
      rw [eve]
    · have eve : ve (q_g s 286) v = -1 := if_neg evo
      simp (disch := first | omega | exact q_b_01 _) only [↓reduceIte, q_bk0, q_bk1, q_bk2, q_sg_b, q_b_0, q_b_n0, q_b_1, q_b_n1, q_b_T, q_b_F, q_sg_g, q_sg_sg, q_sg_xs, q_sg_id, q_gu_ne, q_gu_eq, q_g_fne, q_g_cpe, q_w_f, q_v_f, q_u_f, q_fn_f, q_cp_f, q_sg_pg, q_sg_hc, q_lt_t, q_lt_f, q_le_t, q_le_f, q_eq_t, q_eq_f, ne_eq, eq_self, Bool.false_eq_true, Bool.true_eq_false, not_true_eq_false, not_false_eq_true, true_and, and_true, false_and, and_false, true_or, or_true, false_or, or_false, if_true, if_false, Int.reduceAdd, Int.reduceMul, Int.reduceSub, Int.reduceNeg, evo, R_293_0, R_293_8, R_293_20, R_293_26, R_293_31, R_293_34, R_293_40, R_293_47, C_293_28, C_293_37, C_293_44, mm_isViewV]
      unfold VV
      rw [if_pos eve]
theorem mm_sizeOf (Hv : Vw (q_g s 286)) {v : Int} (h1 : 0 ≤ v) (h2 : v < 5) : EV (d + 15) 296 0 [.ref 285, .int (q_I (v)), .null, .null] [] (q_h L xs s O c) = some (.inl (some (.int (q_I (SZ (q_g s 286) v)))), q_h L xs (q_v s 307 0 48 (fun q => q_I (mk (q_g s 286) q))) O c) := by
  simp (disch := first | omega | exact q_b_01 _) only [↓reduceIte, q_bk0, q_bk1, q_bk2, q_sg_b, q_b_0, q_b_n0, q_b_1, q_b_n1, q_b_T, q_b_F, q_sg_g, q_sg_sg, q_sg_xs, q_sg_id, q_gu_ne, q_gu_eq, q_g_fne, q_g_cpe, q_w_f, q_v_f, q_u_f, q_fn_f, q_cp_f, q_sg_pg, q_sg_hc, q_lt_t, q_lt_f, q_le_t, q_le_f, q_eq_t, q_eq_f, ne_eq, eq_self, Bool.false_eq_true, Bool.true_eq_false, not_true_eq_false, not_false_eq_true, true_and, and_true, false_and, and_false, true_or, or_true, false_or, or_false, if_true, if_false, Int.reduceAdd, Int.reduceMul, Int.reduceSub, Int.reduceNeg, R_296_0, R_296_4, R_296_14, R_296_21, R_296_25, R_296_28, R_296_32, R_296_33, R_296_41, C_296_1, C_296_22, mm_allMarks Hv]
  refine (q_sm (fun j x => EV (d + 15) 296 8 [.ref 285, .int (q_I (v)), .int (q_I (x)), .int (q_I (j))] [] (q_h L xs (q_v s 307 0 48 (fun q => q_I (mk (q_g s 286) q))) O c)) (fun p => q_b (iv (q_g s 286) v p = true)) (lo := 0) (hi := 48) (by omega) (fun j x g1 g2 => ?_)).trans ?_
  · rw [R_296_8]
    by_cases h : iv (q_g s 286) v j = true
    · simp (disch := first | omega | exact q_b_01 _) only [↓reduceIte, q_bk0, q_bk1, q_bk2, q_sg_b, q_b_0, q_b_n0, q_b_1, q_b_n1, q_b_T, q_b_F, q_sg_g, q_sg_sg, q_sg_xs, q_sg_id, q_gu_ne, q_gu_eq, q_g_fne, q_g_cpe, q_w_f, q_v_f, q_u_f, q_fn_f, q_cp_f, q_sg_pg, q_sg_hc, q_lt_t, q_lt_f, q_le_t, q_le_f, q_eq_t, q_eq_f, ne_eq, eq_self, Bool.false_eq_true, Bool.true_eq_false, not_true_eq_false, not_false_eq_true, true_and, and_true, false_and, and_false, true_or, or_true, false_or, or_false, if_true, if_false, Int.reduceAdd, Int.reduceMul, Int.reduceSub, Int.reduceNeg, h, R_296_0, R_296_4, R_296_14, R_296_21, R_296_25, R_296_28, R_296_32, R_296_33, R_296_41, C_296_1, C_296_22, mm_isOf, q_v_g0, q_sgI, mk_sg, mk_ofp]
    · simp (disch := first | omega | exact q_b_01 _) only [↓reduceIte, q_bk0, q_bk1, q_bk2, q_sg_b, q_b_0, q_b_n0, q_b_1, q_b_n1, q_b_T, q_b_F, q_sg_g, q_sg_sg, q_sg_xs, q_sg_id, q_gu_ne, q_gu_eq, q_g_fne, q_g_cpe, q_w_f, q_v_f, q_u_f, q_fn_f, q_cp_f, q_sg_pg, q_sg_hc, q_lt_t, q_lt_f, q_le_t, q_le_f, q_eq_t, q_eq_f, ne_eq, eq_self, Bool.false_eq_true, Bool.true_eq_false, not_true_eq_false, not_false_eq_true, true_and, and_true, false_and, and_false, true_or, or_true, false_or, or_false, if_true, if_false, Int.reduceAdd, Int.reduceMul, Int.reduceSub, Int.reduceNeg, h, R_296_0, R_296_4, R_296_14, R_296_21, R_296_25, R_296_28, R_296_32, R_296_33, R_296_41, C_296_1, C_296_22, mm_isOf, q_v_g0, q_sgI, mk_sg, mk_ofp]
  · rw [R_296_8]
    simp (disch := first | omega | exact q_b_01 _) only [↓reduceIte, q_bk0, q_bk1, q_bk2, q_sg_b, q_b_0, q_b_n0, q_b_1, q_b_n1, q_b_T, q_b_F, q_sg_g, q_sg_sg, q_sg_xs, q_sg_id, q_gu_ne, q_gu_eq, q_g_fne, q_g_cpe, q_w_f, q_v_f, q_u_f, q_fn_f, q_cp_f, q_sg_pg, q_sg_hc, q_lt_t, q_lt_f, q_le_t, q_le_f, q_eq_t, q_eq_f, ne_eq, eq_self, Bool.false_eq_true, Bool.true_eq_false, not_true_eq_false, not_false_eq_true, true_and, and_true, false_and, and_false, true_or, or_true, false_or, or_false, if_true, if_false, Int.reduceAdd, Int.reduceMul, Int.reduceSub, Int.reduceNeg, R_296_0, R_296_4, R_296_14, R_296_21, R_296_25, R_296_28, R_296_32, R_296_33, R_296_41, C_296_1, C_296_22]
    rfl
end MV3
