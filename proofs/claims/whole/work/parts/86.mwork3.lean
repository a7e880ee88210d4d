/-! THE REFERENCE: a line of work, and all of them -/
section MW3
variable {d L : Nat} {xs : Nat → Int32} {s t u : Nat → Int → Int32} {O : Nat → Int64} {c : Bool × Nat × Nat} {T : Int → Int} {E b e : Int} {i : Nat} {r0 k0 : Int} {w : Int × (Int → Int) × (Int → Int) × Int × Int}
theorem mm_changeLine (H : TX T E) (va : Bool) (hs : MS T E (bs T E i) s) (hw : MW r0 k0 w s) : (∀ e, wCh T E va 13 i w = .inl e → ∃ t, EV (d + 4) 236 0 [.ref 285, .int (q_I ((if va = true then 1 else 0))), .null, .null, .null, .null] [] (q_h L xs s O c) = some (.inl none, q_h L xs (t) O c) ∧ MF T E e t ∧ FC s t) ∧ ∀ i' w', wCh T E va 13 i w = .inr (i', w') → ∃ t, EV (d + 4) 236 0 [.ref 285, .int (q_I ((if va = true then 1 else 0))), .null, .null, .null, .null] [] (q_h L xs s O c) = some (.inl none, q_h L xs (t) O c) ∧ MS T E (bs T E i') t ∧ MW r0 k0 w' t ∧ FC s t := by
  have st : EV (d + 4) 236 0 [.ref 285, .int (q_I ((if va = true then 1 else 0))), .null, .null, .null, .null] [] (q_h L xs s O c) = EV (d + 4) 236 2 [.ref 285, .int (q_I ((if va = true then 1 else 0))), .int (q_I (1)), .null, .null, .null] [] (q_h L xs s O c) := by
    simp (disch := first | omega | exact q_b_01 _) only [↓reduceIte, q_bk0, q_bk1, q_bk2, q_sg_b, q_b_0, q_b_n0, q_b_1, q_b_n1, q_b_T, q_b_F, q_sg_g, q_sg_sg, q_sg_xs, q_sg_id, q_gu_ne, q_gu_eq, q_g_fne, q_g_cpe, q_w_f, q_v_f, q_u_f, q_fn_f, q_cp_f, q_sg_pg, q_sg_hc, q_lt_t, q_lt_f, q_le_t, q_le_f, q_eq_t, q_eq_f, ne_eq, eq_self, Bool.false_eq_true, Bool.true_eq_false, not_true_eq_false, not_false_eq_true, true_and, and_true, false_and, and_false, true_or, or_true, false_or, or_false, if_true, if_false, Int.reduceAdd, Int.reduceMul, Int.reduceSub, Int.reduceNeg, R_236_0, R_236_6, R_236_10, R_236_20, R_236_25, R_236_32, R_236_38, R_236_45, R_236_48, R_236_50, R_236_60, R_236_71, R_236_82, R_236_92, R_236_96, R_236_100, C_236_7, C_236_22, C_236_29, C_236_42, C_236_93]
  rw [st]
  exact mm_chL H va 13 i w s _ _ _ (by have := hw.2.1; omega) hs hw
theorem mm_tells {wh hi : Int} (H : TX T E) (hs : MS T E b s) (w0 : wh = 3 ∨ wh = 5) (h0 : 0 ≤ hi) (h1 : hi ≤ 999) : ((thg T E b = 2 ∧ 0 ≤ tel T E b ∧ tel T E b ≤ hi) → EV (d + 4) 237 0 [.ref 285, .int (q_I (wh)), .int (q_I (0)), .int (q_I (hi)), .null] [] (q_h L xs s O c) = some (.inl none, q_h L xs (q_u (q_u s 285 11 (tend T E b)) 286 wh (tel T E b)) O c)) ∧ (¬ (thg T E b = 2 ∧ 0 ≤ tel T E b ∧ tel T E b ≤ hi) → ∃ a, EV (d + 4) 237 0 [.ref 285, .int (q_I (wh)), .int (q_I (0)), .int (q_I (hi)), .null] [] (q_h L xs s O c) = some (.inl none, q_h L xs (q_u (q_u s 285 11 a) 285 12 b) O c) ∧ 0 ≤ a ∧ a ≤ 1000) := by
  obtain ⟨f1, f2⟩ := ms_figures (d := d) (L := L) (xs := xs) (O := O) (c := c) (lo := 0) (hi := hi) H hs (by omega) (by omega) h0 h1
  have hb := MS_b H hs
  refine ⟨fun x => ?_, fun x => ?_⟩
  · have hf : q_g (q_u s 285 11 (tend T E b)) 285 12 = -1 := by rw [q_gu_ne (by omega), hs.2.1]
    simp (disch := first | omega | exact q_b_01 _) only [↓reduceIte, q_bk0, q_bk1, q_bk2, q_sg_b, q_b_0, q_b_n0, q_b_1, q_b_n1, q_b_T, q_b_F, q_sg_g, q_sg_sg, q_sg_xs, q_sg_id, q_gu_ne, q_gu_eq, q_g_fne, q_g_cpe, q_w_f, q_v_f, q_u_f, q_fn_f, q_cp_f, q_sg_pg, q_sg_hc, q_lt_t, q_lt_f, q_le_t, q_le_f, q_eq_t, q_eq_f, ne_eq, eq_self, Bool.false_eq_true, Bool.true_eq_false, not_true_eq_false, not_false_eq_true, true_and, and_true, false_and, and_false, true_or, or_true, false_or, or_false, if_true, if_false, Int.reduceAdd, Int.reduceMul, Int.reduceSub, Int.reduceNeg, f1 x, hf, R_237_0, R_237_6, R_237_16, R_237_24, C_237_3]
  · obtain ⟨v, a, q1, q2, q3⟩ := f2 x
    refine ⟨a, ?_, q2, q3⟩
    simp (disch := first | omega | exact q_b_01 _) only [↓reduceIte, q_bk0, q_bk1, q_bk2, q_sg_b, q_b_0, q_b_n0, q_b_1, q_b_n1, q_b_T, q_b_F, q_sg_g, q_sg_sg, q_sg_xs, q_sg_id, q_gu_ne, q_gu_eq, q_g_fne, q_g_cpe, q_w_f, q_v_f, q_u_f, q_fn_f, q_cp_f, q_sg_pg, q_sg_hc, q_lt_t, q_lt_f, q_le_t, q_le_f, q_eq_t, q_eq_f, ne_eq, eq_self, Bool.false_eq_true, Bool.true_eq_false, not_true_eq_false, not_false_eq_true, true_and, and_true, false_and, and_false, true_or, or_true, false_or, or_false, if_true, if_false, Int.reduceAdd, Int.reduceMul, Int.reduceSub, Int.reduceNeg, q1, R_237_0, R_237_6, R_237_16, R_237_24, C_237_3]
theorem mm_workLine (H : TX T E) (hs : MS T E (bs T E i) s) (hw : MW r0 k0 w s) : (∀ e, wLine T E i w = .inl e → ∃ t, EV (d + 10) 238 0 [.ref 285] [] (q_h L xs s O c) = some (.inl none, q_h L xs (t) O c) ∧ MF T E e t ∧ FC s t) ∧ ∀ i' w', wLine T E i w = .inr (i', w') → ∃ t, EV (d + 10) 238 0 [.ref 285] [] (q_h L xs s O c) = some (.inl none, q_h L xs (t) O c) ∧ MS T E (bs T E i') t ∧ MW r0 k0 w' t ∧ FC s t := by
  have s1 := MS_cur H hs
  have h1 := hs_put (d := d) (L := L) (xs := xs) (O := O) (c := c) H hs
  have h2 := hs_drop (d := d) (L := L) (xs := xs) (O := O) (c := c) H s1
  have h3 := hs_risk (d := d) (L := L) (xs := xs) (O := O) (c := c) H s1
  have h4 := hs_tick (d := d) (L := L) (xs := xs) (O := O) (c := c) H s1
  have en : nxt T E (bs T E i) = bs T E (i + 1) := rfl
  have en2 : nxt T E (bs T E (i + 1)) = bs T E (i + 2) := rfl
  have hb := MS_b H hs
  rw [q_uu_eq] at h2 h3 h4
  have F1 : ∀ v, FC s (q_u s 285 11 v) := fun v => FC_u FC_refl (by omega)
  unfold wLine
  by_cases c0 : thg T E (bs T E i) = 1 ∧ tel T E (bs T E i) = 0
  · rw [if_pos c0]
    rw [if_pos c0] at h1
    have s2 := MS_nxt H hs (thg_lt (T := T) (by omega))
    rw [en] at s2
    obtain ⟨k1, k2⟩ := mm_changeLine (d := d + 5) (L := L) (xs := xs) (O := O) (c := c) H true s2 (MW_c hw)
    rw [if_pos rfl] at k1 k2
    refine ⟨fun e he => ?_, fun i' w' he => ?_⟩
    · obtain ⟨t, q1, q2, q3⟩ := k1 e he
      refine ⟨t, ?_, q2, FC_trans (F1 _) q3⟩
      simp (disch := first | omega | exact q_b_01 _) only [↓reduceIte, q_bk0, q_bk1, q_bk2, q_sg_b, q_b_0, q_b_n0, q_b_1, q_b_n1, q_b_T, q_b_F, q_sg_g, q_sg_sg, q_sg_xs, q_sg_id, q_gu_ne, q_gu_eq, q_g_fne, q_g_cpe, q_w_f, q_v_f, q_u_f, q_fn_f, q_cp_f, q_sg_pg, q_sg_hc, q_lt_t, q_lt_f, q_le_t, q_le_f, q_eq_t, q_eq_f, ne_eq, eq_self, Bool.false_eq_true, Bool.true_eq_false, not_true_eq_false, not_false_eq_true, true_and, and_true, false_and, and_false, true_or, or_true, false_or, or_false, if_true, if_false, Int.reduceAdd, Int.reduceMul, Int.reduceSub, Int.reduceNeg, h1, q_bt c0, q1, R_238_0, R_238_6, R_238_9, R_238_14, R_238_17, R_238_23, R_238_26, R_238_31, R_238_34, R_238_40, R_238_43, R_238_51, R_238_54, R_238_60, R_238_63, R_238_72, R_238_75, R_238_83, C_238_3, C_238_11, C_238_20, C_238_28, C_238_37, C_238_48, C_238_57, C_238_69, C_238_80]
    · obtain ⟨t, q1, q2, q3, q4⟩ := k2 i' w' he
      refine ⟨t, ?_, q2, q3, FC_trans (F1 _) q4⟩
      simp (disch := first | omega | exact q_b_01 _) only [↓reduceIte, q_bk0, q_bk1, q_bk2, q_sg_b, q_b_0, q_b_n0, q_b_1, q_b_n1, q_b_T, q_b_F, q_sg_g, q_sg_sg, q_sg_xs, q_sg_id, q_gu_ne, q_gu_eq, q_g_fne, q_g_cpe, q_w_f, q_v_f, q_u_f, q_fn_f, q_cp_f, q_sg_pg, q_sg_hc, q_lt_t, q_lt_f, q_le_t, q_le_f, q_eq_t, q_eq_f, ne_eq, eq_self, Bool.false_eq_true, Bool.true_eq_false, not_true_eq_false, not_false_eq_true, true_and, and_true, false_and, and_false, true_or, or_true, false_or, or_false, if_true, if_false, Int.reduceAdd, Int.reduceMul, Int.reduceSub, Int.reduceNeg, h1, q_bt c0, q1, R_238_0, R_238_6, R_238_9, R_238_14, R_238_17, R_238_23, R_238_26, R_238_31, R_238_34, R_238_40, R_238_43, R_238_51, R_238_54, R_238_60, R_238_63, R_238_72, R_238_75, R_238_83, C_238_3, C_238_11, C_238_20, C_238_28, C_238_37, C_238_48, C_238_57, C_238_69, C_238_80]
  · rw [if_neg c0]
    rw [if_neg c0] at h1
    by_cases c1 : thg T E (bs T E i) = 1 ∧ tel T E (bs T E i) = 1
    · rw [if_pos c1]
      rw [if_pos c1] at h2
      have s2 := MS_nxt H hs (thg_lt (T := T) (by omega))
      rw [en] at s2
      obtain ⟨k1, k2⟩ := mm_changeLine (d := d + 5) (L := L) (xs := xs) (O := O) (c := c) H false s2 (MW_c hw)
      rw [if_neg (by decide)] at k1 k2
      refine ⟨fun e he => ?_, fun i' w' he => ?_⟩
      · obtain ⟨t, q1, q2, q3⟩ := k1 e he
        refine ⟨t, ?_, q2, FC_trans (F1 _) q3⟩
        simp (disch := first | omega | exact q_b_01 _) only [↓reduceIte, q_bk0, q_bk1, q_bk2, q_sg_b, q_b_0, q_b_n0, q_b_1, q_b_n1, q_b_T, q_b_F, q_sg_g, q_sg_sg, q_sg_xs, q_sg_id, q_gu_ne, q_gu_eq, q_g_fne, q_g_cpe, q_w_f, q_v_f, q_u_f, q_fn_f, q_cp_f, q_sg_pg, q_sg_hc, q_lt_t, q_lt_f, q_le_t, q_le_f, q_eq_t, q_eq_f, ne_eq, eq_self, Bool.false_eq_true, Bool.true_eq_false, not_true_eq_false, not_false_eq_true, true_and, and_true, false_and, and_false, true_or, or_true, false_or, or_false, if_true, if_false, Int.reduceAdd, Int.reduceMul, Int.reduceSub, Int.reduceNeg, h1, h2, q_bf c0, q_bt c1, q1, R_238_0, R_238_6, R_238_9, R_238_14, R_238_17, R_238_23, R_238_26, R_238_31, R_238_34, R_238_40, R_238_43, R_238_51, R_238_54, R_238_60, R_238_63, R_238_72, R_238_75, R_238_83, C_238_3, C_238_11, C_238_20, C_238_28, C_238_37, C_238_48, C_238_57, C_238_69, C_238_80]
      · obtain ⟨t, q1, q2, q3, q4⟩ := k2 i' w' he
        refine ⟨t, ?_, q2, q3, FC_trans (F1 _) q4⟩
        simp (disch := first | omega | exact q_b_01 _) only [↓reduceIte, q_bk0, q_bk1, q_bk2, q_sg_b, q_b_0, q_b_n0, q_b_1, q_b_n1, q_b_T, q_b_F, q_sg_g, q_sg_sg, q_sg_xs, q_sg_id, q_gu_ne, q_gu_eq, q_g_fne, q_g_cpe, q_w_f, q_v_f, q_u_f, q_fn_f, q_cp_f, q_sg_pg, q_sg_hc, q_lt_t, q_lt_f, q_le_t, q_le_f, q_eq_t, q_eq_f, ne_eq, eq_self, Bool.false_eq_true, Bool.true_eq_false, not_true_eq_false, not_false_eq_true, true_and, and_true, false_and, and_false, true_or, or_true, false_or, or_false, if_true, if_false, Int.reduceAdd, Int.reduceMul, Int.reduceSub, Int.reduceNeg, h1, h2, q_bf c0, q_bt c1, q1, R_238_0, R_238_6, R_238_9, R_238_14, R_238_17, R_238_23, R_238_26, R_238_31, R_238_34, R_238_40, R_238_43, R_238_51, R_238_54, R_238_60, R_238_63, R_238_72, R_238_75, R_238_83, C_238_3, C_238_11, C_238_20, C_238_28, C_238_37, C_238_48, C_238_57, C_238_69, C_238_80]
    · rw [if_neg c1]
      rw [if_neg c1] at h2
      by_cases c2 : thg T E (bs T E i) = 1 ∧ tel T E (bs T E i) = 2
      · rw [if_pos c2]
        rw [if_pos c2] at h3
        have s2 := MS_nxt H hs (thg_lt (T := T) (by omega))
        rw [en] at s2
        obtain ⟨k1, k2⟩ := mm_tells (d := d + 5) (L := L) (xs := xs) (O := O) (c := c) (wh := 3) (hi := 100) H s2 (by omega) (by omega) (by omega)
        by_cases cV : thg T E (bs T E (i + 1)) = 2 ∧ 0 ≤ tel T E (bs T E (i + 1)) ∧ tel T E (bs T E (i + 1)) ≤ 100
        · rw [if_pos cV]
          refine ⟨fun e he => by simp at he, fun i' w' he => ?_⟩
          have he' := Sum.inr.inj he
          have ei : i + 2 = i' := congrArg Prod.fst he'
          have ew : (w.1, w.2.1, w.2.2.1, tel T E (bs T E (i + 1)), w.2.2.2.2) = w' := congrArg Prod.snd he'
          subst ei
          subst ew
          have q1 := k1 cV
          rw [q_uu_eq] at q1
          have s3 := MS_nxt H s2 (thg_lt (T := T) (by omega))
          rw [q_uu_eq, en2] at s3
          refine ⟨q_u (q_u s 285 11 (tend T E (bs T E (i + 1)))) 286 3 (tel T E (bs T E (i + 1))), ?_, MS_fr s3 (fun z a1 a2 => ?_) (fun z => ?_) (fun z a => ?_), ?_, FC_u (F1 _) (by omega)⟩
          · simp (disch := first | omega | exact q_b_01 _) only [↓reduceIte, q_bk0, q_bk1, q_bk2, q_sg_b, q_b_0, q_b_n0, q_b_1, q_b_n1, q_b_T, q_b_F, q_sg_g, q_sg_sg, q_sg_xs, q_sg_id, q_gu_ne, q_gu_eq, q_g_fne, q_g_cpe, q_w_f, q_v_f, q_u_f, q_fn_f, q_cp_f, q_sg_pg, q_sg_hc, q_lt_t, q_lt_f, q_le_t, q_le_f, q_eq_t, q_eq_f, ne_eq, eq_self, Bool.false_eq_true, Bool.true_eq_false, not_true_eq_false, not_false_eq_true, true_and, and_true, false_and, and_false, true_or, or_true, false_or, or_false, if_true, if_false, Int.reduceAdd, Int.reduceMul, Int.reduceSub, Int.reduceNeg, h1, h2, h3, q_bf c0, q_bf c1, q_bt c2, q1, R_238_0, R_238_6, R_238_9, R_238_14, R_238_17, R_238_23, R_238_26, R_238_31, R_238_34, R_238_40, R_238_43, R_238_51, R_238_54, R_238_60, R_238_63, R_238_72, R_238_75, R_238_83, C_238_3, C_238_11, C_238_20, C_238_28, C_238_37, C_238_48, C_238_57, C_238_69, C_238_80]
          · rw [q_u_n (by omega)]
          · rw [q_u_n (by omega)]
          · rw [q_u_n (by omega)]
          · obtain ⟨a1, a2, a3, a4, a5, a6⟩ := hw
            refine ⟨by rw [q_gu_ne (by omega), q_gu_ne (by omega), a1], a2, a3, fun k z0 z1 => ?_, ?_, ?_⟩
            · rw [q_gu_ne (by omega), q_gu_ne (by omega), q_gu_ne (by omega), q_gu_ne (by omega)]
              exact a4 k z0 z1
            · rw [q_gu_eq rfl, q_sg_id (by omega) (by omega)]
              show _ = if tel T E (bs T E (i + 1)) = -1 then _ else tel T E (bs T E (i + 1))
              rw [if_neg (by omega)]
            · rw [q_gu_ne (by omega), q_gu_ne (by omega), a6]
        · rw [if_neg cV]
          refine ⟨fun e he => ?_, fun i' w' he => by simp at he⟩
          have he' : bs T E (i + 1) = e := Sum.inl.inj he
          obtain ⟨a, q1, q2, q3⟩ := k2 cV
          rw [q_uu_eq] at q1
          have F := MF_of (a := a) H s2 q2 q3
          rw [q_uu_eq] at F
          refine ⟨_, ?_, by rw [← he']; exact F, FC_u (F1 _) (by omega)⟩
          simp (disch := first | omega | exact q_b_01 _) only [↓reduceIte, q_bk0, q_bk1, q_bk2, q_sg_b, q_b_0, q_b_n0, q_b_1, q_b_n1, q_b_T, q_b_F, q_sg_g, q_sg_sg, q_sg_xs, q_sg_id, q_gu_ne, q_gu_eq, q_g_fne, q_g_cpe, q_w_f, q_v_f, q_u_f, q_fn_f, q_cp_f, q_sg_pg, q_sg_hc, q_lt_t, q_lt_f, q_le_t, q_le_f, q_eq_t, q_eq_f, ne_eq, eq_self, Bool.false_eq_true, Bool.true_eq_false, not_true_eq_false, not_false_eq_true, true_and, and_true, false_and, and_false, true_or, or_true, false_or, or_false, if_true, if_false, Int.reduceAdd, Int.reduceMul, Int.reduceSub, Int.reduceNeg, h1, h2, h3, q_bf c0, q_bf c1, q_bt c2, q1, R_238_0, R_238_6, R_238_9, R_238_14, R_238_17, R_238_23, R_238_26, R_238_31, R_238_34, R_238_40, R_238_43, R_238_51, R_238_54, R_238_60, R_238_63, R_238_72, R_238_75, R_238_83, C_238_3, C_238_11, C_238_20, C_238_28, C_238_37, C_238_48, C_238_57, C_238_69, C_238_80]
      · rw [if_neg c2]
        rw [if_neg c2] at h3
        by_cases c3 : thg T E (bs T E i) = 1 ∧ tel T E (bs T E i) = 18
        · rw [if_pos c3]
          rw [if_pos c3] at h4
          have s2 := MS_nxt H hs (thg_lt (T := T) (by omega))
          rw [en] at s2
          obtain ⟨k1, k2⟩ := mm_tells (d := d + 5) (L := L) (xs := xs) (O := O) (c := c) (wh := 5) (hi := 999) H s2 (by omega) (by omega) (by omega)
          by_cases cV : thg T E (bs T E (i + 1)) = 2 ∧ 0 ≤ tel T E (bs T E (i + 1)) ∧ tel T E (bs T E (i + 1)) ≤ 999
          · rw [if_pos cV]
            refine ⟨fun e he => by simp at he, fun i' w' he => ?_⟩
            have he' := Sum.inr.inj he
            have ei : i + 2 = i' := congrArg Prod.fst he'
            have ew : (w.1, w.2.1, w.2.2.1, w.2.2.2.1, tel T E (bs T E (i + 1))) = w' := congrArg Prod.snd he'
            subst ei
            subst ew
            have q1 := k1 cV
            rw [q_uu_eq] at q1
            have s3 := MS_nxt H s2 (thg_lt (T := T) (by omega))
            rw [q_uu_eq, en2] at s3
            refine ⟨q_u (q_u s 285 11 (tend T E (bs T E (i + 1)))) 286 5 (tel T E (bs T E (i + 1))), ?_, MS_fr s3 (fun z a1 a2 => ?_) (fun z => ?_) (fun z a => ?_), ?_, FC_u (F1 _) (by omega)⟩
            · simp (disch := first | omega | exact q_b_01 _) only [↓reduceIte, q_bk0, q_bk1, q_bk2, q_sg_b, q_b_0, q_b_n0, q_b_1, q_b_n1, q_b_T, q_b_F, q_sg_g, q_sg_sg, q_sg_xs, q_sg_id, q_gu_ne, q_gu_eq, q_g_fne, q_g_cpe, q_w_f, q_v_f, q_u_f, q_fn_f, q_cp_f, q_sg_pg, q_sg_hc, q_lt_t, q_lt_f, q_le_t, q_le_f, q_eq_t, q_eq_f, ne_eq, eq_self, Bool.false_eq_true, Bool.true_eq_false, not_true_eq_false, not_false_eq_true, true_and, and_true, false_and, and_false, true_or, or_true, false_or, or_false, if_true, if_false, Int.reduceAdd, Int.reduceMul, Int.reduceSub, Int.reduceNeg, h1, h2, h3, h4, q_bf c0, q_bf c1, q_bf c2, q_bt c3, q1, R_238_0, R_238_6, R_238_9, R_238_14, R_238_17, R_238_23, R_238_26, R_238_31, R_238_34, R_238_40, R_238_43, R_238_51, R_238_54, R_238_60, R_238_63, R_238_72, R_238_75, R_238_83, C_238_3, C_238_11, C_238_20, C_238_28, C_238_37, C_238_48, C_238_57, C_238_69, C_238_80]
            · rw [q_u_n (by omega)]
            · rw [q_u_n (by omega)]
            · rw [q_u_n (by omega)]
            · obtain ⟨a1, a2, a3, a4, a5, a6⟩ := hw
              refine ⟨by rw [q_gu_ne (by omega), q_gu_ne (by omega), a1], a2, a3, fun k z0 z1 => ?_, ?_, ?_⟩
              · rw [q_gu_ne (by omega), q_gu_ne (by omega), q_gu_ne (by omega), q_gu_ne (by omega)]
                exact a4 k z0 z1
              · rw [q_gu_ne (by omega), q_gu_ne (by omega), a5]
              · rw [q_gu_eq rfl, q_sg_id (by omega) (by omega)]
                show _ = if tel T E (bs T E (i + 1)) = -1 then _ else tel T E (bs T E (i + 1))
                rw [if_neg (by omega)]
          · rw [if_neg cV]
            refine ⟨fun e he => ?_, fun i' w' he => by simp at he⟩
            have he' : bs T E (i + 1) = e := Sum.inl.inj he
            obtain ⟨a, q1, q2, q3⟩ := k2 cV
            rw [q_uu_eq] at q1
            have F := MF_of (a := a) H s2 q2 q3
            rw [q_uu_eq] at F
            refine ⟨_, ?_, by rw [← he']; exact F, FC_u (F1 _) (by omega)⟩
            simp (disch := first | omega | exact q_b_01 _) only [↓reduceIte, q_bk0, q_bk1, q_bk2, q_sg_b, q_b_0, q_b_n0, q_b_1, q_b_n1, q_b_T, q_b_F, q_sg_g, q_sg_sg, q_sg_xs, q_sg_id, q_gu_ne, q_gu_eq, q_g_fne, q_g_cpe, q_w_f, q_v_f, q_u_f, q_fn_f, q_cp_f, q_sg_pg, q_sg_hc, q_lt_t, q_lt_f, q_le_t, q_le_f, q_eq_t, q_eq_f, ne_eq, eq_self, Bool.false_eq_true, Bool.true_eq_false, not_true_eq_false, not_false_eq_true, true_and, and_true, false_and, and_false, true_or, or_true, false_or, or_false, if_true, if_false, Int.reduceAdd, Int.reduceMul, Int.reduceSub, Int.reduceNeg, h1, h2, h3, h4, q_bf c0, q_bf c1, q_bf c2, q_bt c3, q1, R_238_0, R_238_6, R_238_9, R_238_14, R_238_17, R_238_23, R_238_26, R_238_31, R_238_34, R_238_40, R_238_43, R_238_51, R_238_54, R_238_60, R_238_63, R_238_72, R_238_75, R_238_83, C_238_3, C_238_11, C_238_20, C_238_28, C_238_37, C_238_48, C_238_57, C_238_69, C_238_80]
        · rw [if_neg c3]
          rw [if_neg c3] at h4
          refine ⟨fun e he => ?_, fun i' w' he => by simp at he⟩
          have he' : bs T E i = e := Sum.inl.inj he
          have mw := mm_wrong (d := d + 9) (L := L) (xs := xs) (s := q_u s 285 11 (bs T E i)) (O := O) (c := c) (w := bs T E i)
          rw [if_pos s1.2.1] at mw
          have F : MF T E (bs T E i) (q_u (q_u s 285 11 (bs T E i)) 285 12 (bs T E i)) := MF_of H hs hb.1 hb.2.1
          refine ⟨_, ?_, by rw [← he']; exact F, FC_u (F1 _) (by omega)⟩
          have g : q_g (q_u s 285 11 (bs T E i)) 285 11 = bs T E i := by rw [q_gu_eq rfl, q_sg_id (by omega) (by omega)]
          simp (disch := first | omega | exact q_b_01 _) only [↓reduceIte, q_bk0, q_bk1, q_bk2, q_sg_b, q_b_0, q_b_n0, q_b_1, q_b_n1, q_b_T, q_b_F, q_sg_g, q_sg_sg, q_sg_xs, q_sg_id, q_gu_ne, q_gu_eq, q_g_fne, q_g_cpe, q_w_f, q_v_f, q_u_f, q_fn_f, q_cp_f, q_sg_pg, q_sg_hc, q_lt_t, q_lt_f, q_le_t, q_le_f, q_eq_t, q_eq_f, ne_eq, eq_self, Bool.false_eq_true, Bool.true_eq_false, not_true_eq_false, not_false_eq_true, true_and, and_true, false_and, and_false, true_or, or_true, false_or, or_false, if_true, if_false, Int.reduceAdd, Int.reduceMul, Int.reduceSub, Int.reduceNeg, h1, h2, h3, h4, q_bf c0, q_bf c1, q_bf c2, q_bf c3, mw, g, R_238_0, R_238_6, R_238_9, R_238_14, R_238_17, R_238_23, R_238_26, R_238_31, R_238_34, R_238_40, R_238_43, R_238_51, R_238_54, R_238_60, R_238_63, R_238_72, R_238_75, R_238_83, C_238_3, C_238_11, C_238_20, C_238_28, C_238_37, C_238_48, C_238_57, C_238_69, C_238_80]
/-- the lines of work from the n-th on -/
theorem mm_wL (H : TX T E) : ∀ (f : Nat) (n : Int) (i : Nat) (w : Int × (Int → Int) × (Int → Int) × Int × Int) (s : Nat → Int → Int32), n + f = 14 → 0 ≤ n → MS T E (bs T E i) s → MW r0 k0 w s → (∀ e, wLines T E f i w = .inl e → ∃ t n', EV (d + 11) 240 23 [.ref 285, .int (q_I (0)), .int (q_I (1)), .int (q_I (n))] [] (q_h L xs s O c) = some (.inl (some (.int (q_I (n')))), q_h L xs (t) O c) ∧ MF T E e t ∧ FC s t) ∧ ∀ w', wLines T E f i w = .inr w' → ∃ t n', EV (d + 11) 240 23 [.ref 285, .int (q_I (0)), .int (q_I (1)), .int (q_I (n))] [] (q_h L xs s O c) = some (.inl (some (.int (q_I (n')))), q_h L xs (t) O c) ∧ q_g t 285 12 = -1 ∧ MW r0 k0 w' t ∧ FC s t
  | 0, n, i, w, s, hj, j0, hs, hw => by
    refine ⟨fun e he => ?_, fun w' he => by simp [wLines] at he⟩
    have he' : bs T E i = e := Sum.inl.inj he
    have s1 := MS_cur H hs
    have hb := MS_b H hs
    have hf := hs.2.1
    have hsk := ms_skip (d := d + 9) (L := L) (xs := xs) (O := O) (c := c) H hs
    have mw := mm_wrong (d := d + 10) (L := L) (xs := xs) (s := q_u s 285 11 (bs T E i)) (O := O) (c := c) (w := bs T E i)
    rw [if_pos s1.2.1] at mw
    have F : MF T E (bs T E i) (q_u (q_u s 285 11 (bs T E i)) 285 12 (bs T E i)) := MF_of H hs hb.1 hb.2.1
    have sk2 := mm_skipAny (d := d + 9) (L := L) (xs := xs) (O := O) (c := c) F.1 H F.2.2.2.1 F.2.2.2.2
    have F2 := MF_sk H F
    generalize hu : q_u (q_u (q_u s 285 11 (bs T E i)) 285 12 (bs T E i)) 285 11 (sk T E (q_g (q_u (q_u s 285 11 (bs T E i)) 285 12 (bs T E i)) 285 11)) = u at sk2 F2
    have hne := MF_ne F2
    refine ⟨u, n + 1, ?_, by rw [← he']; exact F2, by rw [← hu]; exact FC_u (FC_u (FC_u FC_refl (by omega)) (by omega)) (by omega)⟩
    rw [R_240_23]
    simp (disch := first | omega | exact q_b_01 _) only [↓reduceIte, q_bk0, q_bk1, q_bk2, q_sg_b, q_b_0, q_b_n0, q_b_1, q_b_n1, q_b_T, q_b_F, q_sg_g, q_sg_sg, q_sg_xs, q_sg_id, q_gu_ne, q_gu_eq, q_g_fne, q_g_cpe, q_w_f, q_v_f, q_u_f, q_fn_f, q_cp_f, q_sg_pg, q_sg_hc, q_lt_t, q_lt_f, q_le_t, q_le_f, q_eq_t, q_eq_f, ne_eq, eq_self, Bool.false_eq_true, Bool.true_eq_false, not_true_eq_false, not_false_eq_true, true_and, and_true, false_and, and_false, true_or, or_true, false_or, or_false, if_true, if_false, Int.reduceAdd, Int.reduceMul, Int.reduceSub, Int.reduceNeg, hf, hsk, mw, sk2, hne, R_240_0, R_240_4, R_240_15, R_240_19, R_240_20, R_240_23, R_240_27, R_240_35, R_240_39, R_240_44, R_240_49, R_240_51, R_240_54, R_240_62, R_240_65, R_240_69, R_240_73, R_240_76, R_240_80, R_240_87, R_240_95, R_240_106, R_240_111, R_240_117, R_240_120, R_240_130, R_240_133, R_240_141, R_240_144, C_240_1, C_240_36, C_240_59, C_240_70, C_240_77, C_240_84, C_240_114, C_240_138]
  | f + 1, n, i, w, s, hj, j0, hs, hw => by
    have s1 := MS_cur H hs
    have hf := hs.2.1
    have hsk := ms_skip (d := d + 9) (L := L) (xs := xs) (O := O) (c := c) H hs
    obtain ⟨k1, k2⟩ := mm_workLine (d := d) (L := L) (xs := xs) (O := O) (c := c) H s1 (MW_c hw)
    have F1 : FC s (q_u s 285 11 (bs T E i)) := FC_u FC_refl (by omega)
    unfold wLines
    cases hl : wLine T E i w with
    | inl e0 =>
      obtain ⟨t, q1, q2, q3⟩ := k1 e0 hl
      refine ⟨fun e he => ?_, fun w' he => by simp at he⟩
      have he' : e0 = e := Sum.inl.inj he
      have sk2 := mm_skipAny (d := d + 9) (L := L) (xs := xs) (O := O) (c := c) q2.1 H q2.2.2.2.1 q2.2.2.2.2
      have F2 := MF_sk H q2
      generalize hu : q_u t 285 11 (sk T E (q_g t 285 11)) = u at sk2 F2
      have hne := MF_ne F2
      refine ⟨u, n + 1, ?_, by rw [← he']; exact F2, by rw [← hu]; exact FC_trans F1 (FC_u q3 (by omega))⟩
      rw [R_240_23]
      simp (disch := first | omega | exact q_b_01 _) only [↓reduceIte, q_bk0, q_bk1, q_bk2, q_sg_b, q_b_0, q_b_n0, q_b_1, q_b_n1, q_b_T, q_b_F, q_sg_g, q_sg_sg, q_sg_xs, q_sg_id, q_gu_ne, q_gu_eq, q_g_fne, q_g_cpe, q_w_f, q_v_f, q_u_f, q_fn_f, q_cp_f, q_sg_pg, q_sg_hc, q_lt_t, q_lt_f, q_le_t, q_le_f, q_eq_t, q_eq_f, ne_eq, eq_self, Bool.false_eq_true, Bool.true_eq_false, not_true_eq_false, not_false_eq_true, true_and, and_true, false_and, and_false, true_or, or_true, false_or, or_false, if_true, if_false, Int.reduceAdd, Int.reduceMul, Int.reduceSub, Int.reduceNeg, hf, hsk, q1, sk2, hne, R_240_0, R_240_4, R_240_15, R_240_19, R_240_20, R_240_23, R_240_27, R_240_35, R_240_39, R_240_44, R_240_49, R_240_51, R_240_54, R_240_62, R_240_65, R_240_69, R_240_73, R_240_76, R_240_80, R_240_87, R_240_95, R_240_106, R_240_111, R_240_117, R_240_120, R_240_130, R_240_133, R_240_141, R_240_144, C_240_1, C_240_36, C_240_59, C_240_70, C_240_77, C_240_84, C_240_114, C_240_138]
    | inr p =>
      obtain ⟨i', w1⟩ := p
      obtain ⟨t, q1, q2, q3, q4⟩ := k2 i' w1 hl
      have hb := MS_b H q2
      have sk2 := ms_skip (d := d + 9) (L := L) (xs := xs) (O := O) (c := c) H q2
      have t1 := MS_cur H q2
      have hf1 := t1.2.1
      have g10 : q_g (q_u t 285 11 (bs T E i')) 285 10 = E := t1.1.1
      have g11 : q_g (q_u t 285 11 (bs T E i')) 285 11 = bs T E i' := by rw [q_gu_eq rfl, q_sg_id (by omega) (by omega)]
      have hE := H.1
      have hE1 := H.2.1
      have le : bs T E i' ≤ E := MS_le H q2
      show (∀ e, (if thg T E (bs T E i') = 0 then Sum.inr w1 else if thg T E (bs T E i') = 3 ∧ tel T E (bs T E i') = 59 then wLines T E f (i' + 1) w1 else Sum.inl (bs T E i')) = Sum.inl e → _) ∧ ∀ w', (if thg T E (bs T E i') = 0 then Sum.inr w1 else if thg T E (bs T E i') = 3 ∧ tel T E (bs T E i') = 59 then wLines T E f (i' + 1) w1 else Sum.inl (bs T E i')) = Sum.inr w' → _
      by_cases c0 : thg T E (bs T E i') = 0
      · rw [if_pos c0]
        refine ⟨fun e he => by simp at he, fun w' he => ?_⟩
        have he' : w1 = w' := Sum.inr.inj he
        subst he'
        have be : bs T E i' = E := by
          have := thg_ge c0
          omega
        refine ⟨q_u t 285 11 (bs T E i'), n + 1, ?_, hf1, MW_c q3, FC_trans F1 (FC_u q4 (by omega))⟩
        rw [R_240_23]
        have g11e := g11.trans be
        simp (disch := first | omega | exact q_b_01 _) only [↓reduceIte, q_bk0, q_bk1, q_bk2, q_sg_b, q_b_0, q_b_n0, q_b_1, q_b_n1, q_b_T, q_b_F, q_sg_g, q_sg_sg, q_sg_xs, q_sg_id, q_gu_ne, q_gu_eq, q_g_fne, q_g_cpe, q_w_f, q_v_f, q_u_f, q_fn_f, q_cp_f, q_sg_pg, q_sg_hc, q_lt_t, q_lt_f, q_le_t, q_le_f, q_eq_t, q_eq_f, ne_eq, eq_self, Bool.false_eq_true, Bool.true_eq_false, not_true_eq_false, not_false_eq_true, true_and, and_true, false_and, and_false, true_or, or_true, false_or, or_false, if_true, if_false, Int.reduceAdd, Int.reduceMul, Int.reduceSub, Int.reduceNeg, hf, hsk, q1, sk2, hf1, g10, g11e, R_240_0, R_240_4, R_240_15, R_240_19, R_240_20, R_240_27, R_240_35, R_240_39, R_240_44, R_240_49, R_240_51, R_240_54, R_240_62, R_240_65, R_240_69, R_240_73, R_240_76, R_240_80, R_240_87, R_240_95, R_240_106, R_240_111, R_240_117, R_240_120, R_240_130, R_240_133, R_240_141, R_240_144, C_240_1, C_240_36, C_240_59, C_240_70, C_240_77, C_240_84, C_240_114, C_240_138]
        rw [R_240_23]
        simp (disch := first | omega | exact q_b_01 _) only [↓reduceIte, q_bk0, q_bk1, q_bk2, q_sg_b, q_b_0, q_b_n0, q_b_1, q_b_n1, q_b_T, q_b_F, q_sg_g, q_sg_sg, q_sg_xs, q_sg_id, q_gu_ne, q_gu_eq, q_g_fne, q_g_cpe, q_w_f, q_v_f, q_u_f, q_fn_f, q_cp_f, q_sg_pg, q_sg_hc, q_lt_t, q_lt_f, q_le_t, q_le_f, q_eq_t, q_eq_f, ne_eq, eq_self, Bool.false_eq_true, Bool.true_eq_false, not_true_eq_false, not_false_eq_true, true_and, and_true, false_and, and_false, true_or, or_true, false_or, or_false, if_true, if_false, Int.reduceAdd, Int.reduceMul, Int.reduceSub, Int.reduceNeg, R_240_0, R_240_4, R_240_15, R_240_19, R_240_20, R_240_27, R_240_35, R_240_39, R_240_44, R_240_49, R_240_51, R_240_54, R_240_62, R_240_65, R_240_69, R_240_73, R_240_76, R_240_80, R_240_87, R_240_95, R_240_106, R_240_111, R_240_117, R_240_120, R_240_130, R_240_133, R_240_141, R_240_144, C_240_1, C_240_36, C_240_59, C_240_70, C_240_77, C_240_84, C_240_114, C_240_138]
      · rw [if_neg c0]
        have bE := thg_lt c0
        have hsg := ms_sign (d := d + 8) (L := L) (xs := xs) (O := O) (c := c) (x := 59) H t1 (by omega) (by omega) (by omega) (by omega)
        rw [q_uu_eq] at hsg
        by_cases c9 : thg T E (bs T E i') = 3 ∧ tel T E (bs T E i') = 59
        · rw [if_pos c9]
          have en : nxt T E (bs T E i') = bs T E (i' + 1) := rfl
          have s3 := MS_nxt H q2 bE
          rw [en, (sg_tend c9.1).1] at s3
          have st : EV (d + 11) 240 23 [.ref 285, .int (q_I (0)), .int (q_I (1)), .int (q_I (n))] [] (q_h L xs s O c) = EV (d + 11) 240 23 [.ref 285, .int (q_I (0)), .int (q_I (1)), .int (q_I (n + 1))] [] (q_h L xs (q_u t 285 11 (bs T E i' + 1)) O c) := by
            rw [R_240_23]
            simp (disch := first | omega | exact q_b_01 _) only [↓reduceIte, q_bk0, q_bk1, q_bk2, q_sg_b, q_b_0, q_b_n0, q_b_1, q_b_n1, q_b_T, q_b_F, q_sg_g, q_sg_sg, q_sg_xs, q_sg_id, q_gu_ne, q_gu_eq, q_g_fne, q_g_cpe, q_w_f, q_v_f, q_u_f, q_fn_f, q_cp_f, q_sg_pg, q_sg_hc, q_lt_t, q_lt_f, q_le_t, q_le_f, q_eq_t, q_eq_f, ne_eq, eq_self, Bool.false_eq_true, Bool.true_eq_false, not_true_eq_false, not_false_eq_true, true_and, and_true, false_and, and_false, true_or, or_true, false_or, or_false, if_true, if_false, Int.reduceAdd, Int.reduceMul, Int.reduceSub, Int.reduceNeg, hf, hsk, q1, sk2, hf1, g10, g11, hsg, q_bt c9, q_uu_eq, R_240_0, R_240_4, R_240_15, R_240_19, R_240_20, R_240_27, R_240_35, R_240_39, R_240_44, R_240_49, R_240_51, R_240_54, R_240_62, R_240_65, R_240_69, R_240_73, R_240_76, R_240_80, R_240_87, R_240_95, R_240_106, R_240_111, R_240_117, R_240_120, R_240_130, R_240_133, R_240_141, R_240_144, C_240_1, C_240_36, C_240_59, C_240_70, C_240_77, C_240_84, C_240_114, C_240_138]
          obtain ⟨n1, n2⟩ := mm_wL H f (n + 1) (i' + 1) w1 _ (by omega) (by omega) s3 (MW_c q3)
          rw [st]
          have F3 : FC s (q_u t 285 11 (bs T E i' + 1)) := FC_trans F1 (FC_u q4 (by omega))
          refine ⟨fun e he => ?_, fun w' he => ?_⟩
          · obtain ⟨t', n', r1, r2, r3⟩ := n1 e he
            exact ⟨t', n', r1, r2, FC_trans F3 r3⟩
          · obtain ⟨t', n', r1, r2, r3, r4⟩ := n2 w' he
            exact ⟨t', n', r1, r2, r3, FC_trans F3 r4⟩
        · rw [if_neg c9]
          refine ⟨fun e he => ?_, fun w' he => by simp at he⟩
          have he' : bs T E i' = e := Sum.inl.inj he
          have mw := mm_wrong (d := d + 10) (L := L) (xs := xs) (s := q_u t 285 11 (bs T E i')) (O := O) (c := c) (w := bs T E i')
          rw [if_pos hf1] at mw
          have F : MF T E (bs T E i') (q_u (q_u t 285 11 (bs T E i')) 285 12 (bs T E i')) := MF_of H q2 hb.1 hb.2.1
          have hne := MF_ne F
          refine ⟨q_u (q_u t 285 11 (bs T E i')) 285 12 (bs T E i'), n + 1, ?_, by rw [← he']; exact F, FC_trans F1 (FC_u (FC_u q4 (by omega)) (by omega))⟩
          rw [R_240_23]
          simp (disch := first | omega | exact q_b_01 _) only [↓reduceIte, q_bk0, q_bk1, q_bk2, q_sg_b, q_b_0, q_b_n0, q_b_1, q_b_n1, q_b_T, q_b_F, q_sg_g, q_sg_sg, q_sg_xs, q_sg_id, q_gu_ne, q_gu_eq, q_g_fne, q_g_cpe, q_w_f, q_v_f, q_u_f, q_fn_f, q_cp_f, q_sg_pg, q_sg_hc, q_lt_t, q_lt_f, q_le_t, q_le_f, q_eq_t, q_eq_f, ne_eq, eq_self, Bool.false_eq_true, Bool.true_eq_false, not_true_eq_false, not_false_eq_true, true_and, and_true, false_and, and_false, true_or, or_true, false_or, or_false, if_true, if_false, Int.reduceAdd, Int.reduceMul, Int.reduceSub, Int.reduceNeg, hf, hsk, q1, sk2, hf1, g10, g11, hsg, q_bf c9, mw, R_240_0, R_240_4, R_240_15, R_240_19, R_240_20, R_240_27, R_240_35, R_240_39, R_240_44, R_240_49, R_240_51, R_240_54, R_240_62, R_240_65, R_240_69, R_240_73, R_240_76, R_240_80, R_240_87, R_240_95, R_240_106, R_240_111, R_240_117, R_240_120, R_240_130, R_240_133, R_240_141, R_240_144, C_240_1, C_240_36, C_240_59, C_240_70, C_240_77, C_240_84, C_240_114, C_240_138]
          rw [R_240_23]
          simp (disch := first | omega | exact q_b_01 _) only [↓reduceIte, q_bk0, q_bk1, q_bk2, q_sg_b, q_b_0, q_b_n0, q_b_1, q_b_n1, q_b_T, q_b_F, q_sg_g, q_sg_sg, q_sg_xs, q_sg_id, q_gu_ne, q_gu_eq, q_g_fne, q_g_cpe, q_w_f, q_v_f, q_u_f, q_fn_f, q_cp_f, q_sg_pg, q_sg_hc, q_lt_t, q_lt_f, q_le_t, q_le_f, q_eq_t, q_eq_f, ne_eq, eq_self, Bool.false_eq_true, Bool.true_eq_false, not_true_eq_false, not_false_eq_true, true_and, and_true, false_and, and_false, true_or, or_true, false_or, or_false, if_true, if_false, Int.reduceAdd, Int.reduceMul, Int.reduceSub, Int.reduceNeg, hne, R_240_0, R_240_4, R_240_15, R_240_19, R_240_20, R_240_27, R_240_35, R_240_39, R_240_44, R_240_49, R_240_51, R_240_54, R_240_62, R_240_65, R_240_69, R_240_73, R_240_76, R_240_80, R_240_87, R_240_95, R_240_106, R_240_111, R_240_117, R_240_120, R_240_130, R_240_133, R_240_141, R_240_144, C_240_1, C_240_36, C_240_59, C_240_70, C_240_77, C_240_84, C_240_114, C_240_138]
theorem mm_reads0 (H : TX T E) (hs : MS T E (bs T E 0) s) (hw : MW r0 k0 w0 s) : (∀ e, wAll T E = .inl e → ∃ t n', EV (d + 11) 240 0 [.ref 285, .int (q_I (0)), .null, .null] [] (q_h L xs s O c) = some (.inl (some (.int (q_I (n')))), q_h L xs (t) O c) ∧ MF T E e t ∧ FC s t) ∧ ∀ w', wAll T E = .inr w' → ∃ t n', EV (d + 11) 240 0 [.ref 285, .int (q_I (0)), .null, .null] [] (q_h L xs s O c) = some (.inl (some (.int (q_I (n')))), q_h L xs (t) O c) ∧ q_g t 285 12 = -1 ∧ MW r0 k0 w' t ∧ FC s t := by
  have s1 := MS_cur H hs
  have hsk := ms_skip (d := d + 9) (L := L) (xs := xs) (O := O) (c := c) H hs
  have hb := MS_b H hs
  have hE := H.1
  have hE1 := H.2.1
  have le := MS_le H hs
  have g10 : q_g (q_u s 285 11 (bs T E 0)) 285 10 = E := s1.1.1
  have g11 : q_g (q_u s 285 11 (bs T E 0)) 285 11 = bs T E 0 := by rw [q_gu_eq rfl, q_sg_id (by omega) (by omega)]
  have F1 : FC s (q_u s 285 11 (bs T E 0)) := FC_u FC_refl (by omega)
  unfold wAll
  by_cases c0 : thg T E (bs T E 0) = 0
  · rw [if_pos c0]
    refine ⟨fun e he => by simp at he, fun w' he => ?_⟩
    have he' : w0 = w' := Sum.inr.inj he
    subst he'
    have be := thg_ge c0
    refine ⟨q_u s 285 11 (bs T E 0), 0, ?_, s1.2.1, MW_c hw, F1⟩
    simp (disch := first | omega | exact q_b_01 _) only [↓reduceIte, q_bk0, q_bk1, q_bk2, q_sg_b, q_b_0, q_b_n0, q_b_1, q_b_n1, q_b_T, q_b_F, q_sg_g, q_sg_sg, q_sg_xs, q_sg_id, q_gu_ne, q_gu_eq, q_g_fne, q_g_cpe, q_w_f, q_v_f, q_u_f, q_fn_f, q_cp_f, q_sg_pg, q_sg_hc, q_lt_t, q_lt_f, q_le_t, q_le_f, q_eq_t, q_eq_f, ne_eq, eq_self, Bool.false_eq_true, Bool.true_eq_false, not_true_eq_false, not_false_eq_true, true_and, and_true, false_and, and_false, true_or, or_true, false_or, or_false, if_true, if_false, Int.reduceAdd, Int.reduceMul, Int.reduceSub, Int.reduceNeg, hsk, g10, g11, R_240_0, R_240_4, R_240_15, R_240_19, R_240_20, R_240_23, R_240_27, R_240_35, R_240_39, R_240_44, R_240_49, R_240_51, R_240_54, R_240_62, R_240_65, R_240_69, R_240_73, R_240_76, R_240_80, R_240_87, R_240_95, R_240_106, R_240_111, R_240_117, R_240_120, R_240_130, R_240_133, R_240_141, R_240_144, C_240_1, C_240_36, C_240_59, C_240_70, C_240_77, C_240_84, C_240_114, C_240_138]
  · rw [if_neg c0]
    have bE := thg_lt c0
    have st : EV (d + 11) 240 0 [.ref 285, .int (q_I (0)), .null, .null] [] (q_h L xs s O c) = EV (d + 11) 240 23 [.ref 285, .int (q_I (0)), .int (q_I (1)), .int (q_I (0))] [] (q_h L xs (q_u s 285 11 (bs T E 0)) O c) := by
      simp (disch := first | omega | exact q_b_01 _) only [↓reduceIte, q_bk0, q_bk1, q_bk2, q_sg_b, q_b_0, q_b_n0, q_b_1, q_b_n1, q_b_T, q_b_F, q_sg_g, q_sg_sg, q_sg_xs, q_sg_id, q_gu_ne, q_gu_eq, q_g_fne, q_g_cpe, q_w_f, q_v_f, q_u_f, q_fn_f, q_cp_f, q_sg_pg, q_sg_hc, q_lt_t, q_lt_f, q_le_t, q_le_f, q_eq_t, q_eq_f, ne_eq, eq_self, Bool.false_eq_true, Bool.true_eq_false, not_true_eq_false, not_false_eq_true, true_and, and_true, false_and, and_false, true_or, or_true, false_or, or_false, if_true, if_false, Int.reduceAdd, Int.reduceMul, Int.reduceSub, Int.reduceNeg, hsk, g10, g11, R_240_0, R_240_4, R_240_15, R_240_19, R_240_20, R_240_27, R_240_35, R_240_39, R_240_44, R_240_49, R_240_51, R_240_54, R_240_62, R_240_65, R_240_69, R_240_73, R_240_76, R_240_80, R_240_87, R_240_95, R_240_106, R_240_111, R_240_117, R_240_120, R_240_130, R_240_133, R_240_141, R_240_144, C_240_1, C_240_36, C_240_59, C_240_70, C_240_77, C_240_84, C_240_114, C_240_138]
    rw [st]
    obtain ⟨n1, n2⟩ := mm_wL (d := d) (L := L) (xs := xs) (O := O) (c := c) H 14 0 0 w0 _ (by omega) (by omega) s1 (MW_c hw)
    refine ⟨fun e he => ?_, fun w' he => ?_⟩
    · obtain ⟨t', n', r1, r2, r3⟩ := n1 e he
      exact ⟨t', n', r1, r2, FC_trans F1 r3⟩
    · obtain ⟨t', n', r1, r2, r3, r4⟩ := n2 w' he
      exact ⟨t', n', r1, r2, r3, FC_trans F1 r4⟩
end MW3
