/-! THE CLASS: a text of work, all of it -/
section CW2
variable {d L : Nat} {xs : Nat → Int32} {s t u : Nat → Int → Int32} {O : Nat → Int64} {c : Bool × Nat × Nat} {T : Int → Int} {E : Int} {C i : Nat} {w : Int × (Int → Int) × (Int → Int) × Int × Int}
theorem CW_fr {t : Nat → Int → Int32} (h : CW w s) (e : ∀ k z, k = 68 ∨ k = 69 ∨ k = 70 → q_g t k z = q_g s k z) : CW w t := by
  obtain ⟨h1, h2, h3, h4, h5, h6⟩ := h
  refine ⟨by rw [e 68 3 (by omega), h1], h2, h3, fun k k0 k1 => by rw [e 69 k (by omega), e 70 k (by omega)]; exact h4 k k0 k1, by rw [e 68 4 (by omega), h5], by rw [e 68 5 (by omega), h6]⟩
theorem iC_of (hT : TS T E C s) (hi : i ≤ C) (h : thg T E (bs T E i) ≠ 0) : i < C := by
  have hne : i ≠ C := fun e => h ((thg_end hT hi).mpr e)
  omega
theorem cc_readChanges (hr : ∀ j, 0 ≤ j → j < E → 0 ≤ T j ∧ T j ≤ 255) (va : Bool) (hp : PS T E C i w s) (iC : i < C) : (∀ e, wCh T E va 13 (i + 1) w = .inl e → ∃ t, EV (d + 1) 134 0 [.ref 68, .int (q_I ((if va = true then 1 else 0))), .null] [] (q_h L xs s O c) = some (.inl (some (.int (q_I (0)))), q_h L xs (t) O c) ∧ q_g t 2 6 = e ∧ FW s t) ∧ ∀ i' w', wCh T E va 13 (i + 1) w = .inr (i', w') → ∃ t, EV (d + 1) 134 0 [.ref 68, .int (q_I ((if va = true then 1 else 0))), .null] [] (q_h L xs s O c) = some (.inl (some (.int (q_I (1)))), q_h L xs (t) O c) ∧ PS T E C i' w' t ∧ FW s t ∧ q_g t 2 6 = q_g s 2 6 := by
  obtain ⟨hT, hm, hi, hw⟩ := hp
  have hC := hT.1
  have hw2 := hw.2.1
  have st : EV (d + 1) 134 0 [.ref 68, .int (q_I ((if va = true then 1 else 0))), .null] [] (q_h L xs s O c) = EV (d + 1) 134 9 [.ref 68, .int (q_I ((if va = true then 1 else 0))), .int (q_I (0))] [] (q_h L xs (q_u s 2 5 ((i + 1 : Nat) : Int)) O c) := by
    simp (disch := first | omega | exact q_b_01 _) only [↓reduceIte, q_bk0, q_bk1, q_bk2, q_sg_b, q_b_0, q_b_n0, q_b_1, q_b_n1, q_b_T, q_b_F, q_sg_g, q_sg_sg, q_sg_xs, q_sg_id, q_gu_ne, q_gu_eq, q_g_fne, q_g_cpe, q_w_f, q_v_f, q_u_f, q_fn_f, q_cp_f, q_sg_pg, q_sg_hc, q_lt_t, q_lt_f, q_le_t, q_le_f, q_eq_t, q_eq_f, ne_eq, eq_self, Bool.false_eq_true, Bool.true_eq_false, not_true_eq_false, not_false_eq_true, true_and, and_true, false_and, and_false, true_or, or_true, false_or, or_false, if_true, if_false, Int.reduceAdd, Int.reduceMul, Int.reduceSub, Int.reduceNeg, R_134_0, R_134_7, R_134_15, R_134_19, R_134_31, R_134_34, R_134_36, R_134_43, R_134_52, R_134_63, R_134_66, R_134_73, R_134_74, R_134_89, R_134_90, R_134_101, R_134_108, R_134_112, R_134_123, R_134_126, R_134_133, R_134_134, R_134_149, R_134_150, R_134_157, R_134_167, R_134_173, R_134_180, C_134_4, C_134_28, C_134_60, C_134_70, C_134_86, C_134_105, C_134_120, C_134_130, C_134_146, C_134_154, C_134_177, cc_step hT hm iC]
  have P : PS T E C (i + 1) w (q_u s 2 5 ((i + 1 : Nat) : Int)) := ⟨TS_u hT (by omega), by rw [q_gu_eq rfl, q_sg_id (by omega) (by omega)], by omega, CW_fr hw (fun k z hk => q_gu_ne (by omega))⟩
  obtain ⟨k1, k2⟩ := cc_chL (d := d) (L := L) (xs := xs) (O := O) (c := c) hr va 13 0 (i + 1) w _ (by omega) (by omega) hw2 P (Or.inl rfl)
  rw [st]
  have F : FW s (q_u s 2 5 ((i + 1 : Nat) : Int)) := FW_u (fun _ _ _ _ _ _ => rfl) (by omega)
  refine ⟨fun e he => ?_, fun i' w' he => ?_⟩
  · obtain ⟨t, q1, q2, q3⟩ := k1 e he
    exact ⟨t, q1, q2, FW_trans F q3⟩
  · obtain ⟨t, q1, q2, q3, q4⟩ := k2 i' w' he
    exact ⟨t, q1, q2, FW_trans F q3, by rw [q4, q_gu_ne (by omega)]⟩
theorem cc_wline (hr : ∀ j, 0 ≤ j → j < E → 0 ≤ T j ∧ T j ≤ 255) (hp : PS T E C i w s) : (∀ e, wLine T E i w = .inl e → ∃ t, EV (d + 2) 133 0 [.ref 68, .null] [] (q_h L xs s O c) = some (.inl (some (.int (q_I (0)))), q_h L xs (t) O c) ∧ q_g t 2 6 = e ∧ FW s t) ∧ ∀ i' w', wLine T E i w = .inr (i', w') → ∃ t, EV (d + 2) 133 0 [.ref 68, .null] [] (q_h L xs s O c) = some (.inl (some (.int (q_I (1)))), q_h L xs (t) O c) ∧ PS T E C i' w' t ∧ FW s t ∧ q_g t 2 6 = q_g s 2 6 := by
  have hp0 := hp
  obtain ⟨hT, hm, hi, hw⟩ := hp
  have hC := hT.1
  have b1 : q_g s 5 i = bs T E i := (hT.2.2.2 i hi).2.1
  have br := q_g_rg s 5 i
  rw [b1] at br
  have is := fun (to : Int) (h2 : -1 ≤ to) (h3 : to ≤ 999) => cc_is (d := d + 1) (L := L) (xs := xs) (O := O) (c := c) (th := 1) (to := to) hT hm hi (by omega) (by omega) h2 h3
  unfold wLine
  by_cases c0 : thg T E (bs T E i) = 1 ∧ tel T E (bs T E i) = 0
  · rw [if_pos c0]
    obtain ⟨k1, k2⟩ := cc_readChanges (d := d) (L := L) (xs := xs) (O := O) (c := c) hr true hp0 (iC_of hT hi (by omega))
    rw [if_pos rfl] at k1 k2
    refine ⟨fun e he => ?_, fun i' w' he => ?_⟩
    · obtain ⟨t, q1, q2⟩ := k1 e he
      refine ⟨t, ?_, q2⟩
      simp (disch := first | omega | exact q_b_01 _) only [↓reduceIte, q_bk0, q_bk1, q_bk2, q_sg_b, q_b_0, q_b_n0, q_b_1, q_b_n1, q_b_T, q_b_F, q_sg_g, q_sg_sg, q_sg_xs, q_sg_id, q_gu_ne, q_gu_eq, q_g_fne, q_g_cpe, q_w_f, q_v_f, q_u_f, q_fn_f, q_cp_f, q_sg_pg, q_sg_hc, q_lt_t, q_lt_f, q_le_t, q_le_f, q_eq_t, q_eq_f, ne_eq, eq_self, Bool.false_eq_true, Bool.true_eq_false, not_true_eq_false, not_false_eq_true, true_and, and_true, false_and, and_false, true_or, or_true, false_or, or_false, if_true, if_false, Int.reduceAdd, Int.reduceMul, Int.reduceSub, Int.reduceNeg, is 0, q_bt c0, q1, R_133_0, R_133_9, R_133_12, R_133_17, R_133_18, R_133_27, R_133_30, R_133_35, R_133_36, R_133_45, R_133_50, R_133_60, R_133_63, R_133_70, R_133_71, R_133_78, R_133_88, R_133_93, R_133_99, R_133_102, R_133_109, R_133_110, R_133_115, R_133_122, R_133_125, R_133_129, R_133_132, R_133_137, R_133_144, R_133_151, R_133_154, R_133_161, C_133_6, C_133_14, C_133_24, C_133_32, C_133_42, C_133_57, C_133_67, C_133_75, C_133_96, C_133_106, C_133_119, C_133_148, C_133_158]
    · obtain ⟨t, q1, q2⟩ := k2 i' w' he
      refine ⟨t, ?_, q2⟩
      simp (disch := first | omega | exact q_b_01 _) only [↓reduceIte, q_bk0, q_bk1, q_bk2, q_sg_b, q_b_0, q_b_n0, q_b_1, q_b_n1, q_b_T, q_b_F, q_sg_g, q_sg_sg, q_sg_xs, q_sg_id, q_gu_ne, q_gu_eq, q_g_fne, q_g_cpe, q_w_f, q_v_f, q_u_f, q_fn_f, q_cp_f, q_sg_pg, q_sg_hc, q_lt_t, q_lt_f, q_le_t, q_le_f, q_eq_t, q_eq_f, ne_eq, eq_self, Bool.false_eq_true, Bool.true_eq_false, not_true_eq_false, not_false_eq_true, true_and, and_true, false_and, and_false, true_or, or_true, false_or, or_false, if_true, if_false, Int.reduceAdd, Int.reduceMul, Int.reduceSub, Int.reduceNeg, is 0, q_bt c0, q1, R_133_0, R_133_9, R_133_12, R_133_17, R_133_18, R_133_27, R_133_30, R_133_35, R_133_36, R_133_45, R_133_50, R_133_60, R_133_63, R_133_70, R_133_71, R_133_78, R_133_88, R_133_93, R_133_99, R_133_102, R_133_109, R_133_110, R_133_115, R_133_122, R_133_125, R_133_129, R_133_132, R_133_137, R_133_144, R_133_151, R_133_154, R_133_161, C_133_6, C_133_14, C_133_24, C_133_32, C_133_42, C_133_57, C_133_67, C_133_75, C_133_96, C_133_106, C_133_119, C_133_148, C_133_158]
  · rw [if_neg c0]
    by_cases c1 : thg T E (bs T E i) = 1 ∧ tel T E (bs T E i) = 1
    · rw [if_pos c1]
      obtain ⟨k1, k2⟩ := cc_readChanges (d := d) (L := L) (xs := xs) (O := O) (c := c) hr false hp0 (iC_of hT hi (by omega))
      rw [if_neg (by decide)] at k1 k2
      refine ⟨fun e he => ?_, fun i' w' he => ?_⟩
      · obtain ⟨t, q1, q2⟩ := k1 e he
        refine ⟨t, ?_, q2⟩
        simp (disch := first | omega | exact q_b_01 _) only [↓reduceIte, q_bk0, q_bk1, q_bk2, q_sg_b, q_b_0, q_b_n0, q_b_1, q_b_n1, q_b_T, q_b_F, q_sg_g, q_sg_sg, q_sg_xs, q_sg_id, q_gu_ne, q_gu_eq, q_g_fne, q_g_cpe, q_w_f, q_v_f, q_u_f, q_fn_f, q_cp_f, q_sg_pg, q_sg_hc, q_lt_t, q_lt_f, q_le_t, q_le_f, q_eq_t, q_eq_f, ne_eq, eq_self, Bool.false_eq_true, Bool.true_eq_false, not_true_eq_false, not_false_eq_true, true_and, and_true, false_and, and_false, true_or, or_true, false_or, or_false, if_true, if_false, Int.reduceAdd, Int.reduceMul, Int.reduceSub, Int.reduceNeg, is 0, is 1, q_bf c0, q_bt c1, q1, R_133_0, R_133_9, R_133_12, R_133_17, R_133_18, R_133_27, R_133_30, R_133_35, R_133_36, R_133_45, R_133_50, R_133_60, R_133_63, R_133_70, R_133_71, R_133_78, R_133_88, R_133_93, R_133_99, R_133_102, R_133_109, R_133_110, R_133_115, R_133_122, R_133_125, R_133_129, R_133_132, R_133_137, R_133_144, R_133_151, R_133_154, R_133_161, C_133_6, C_133_14, C_133_24, C_133_32, C_133_42, C_133_57, C_133_67, C_133_75, C_133_96, C_133_106, C_133_119, C_133_148, C_133_158]
      · obtain ⟨t, q1, q2⟩ := k2 i' w' he
        refine ⟨t, ?_, q2⟩
        simp (disch := first | omega | exact q_b_01 _) only [↓reduceIte, q_bk0, q_bk1, q_bk2, q_sg_b, q_b_0, q_b_n0, q_b_1, q_b_n1, q_b_T, q_b_F, q_sg_g, q_sg_sg, q_sg_xs, q_sg_id, q_gu_ne, q_gu_eq, q_g_fne, q_g_cpe, q_w_f, q_v_f, q_u_f, q_fn_f, q_cp_f, q_sg_pg, q_sg_hc, q_lt_t, q_lt_f, q_le_t, q_le_f, q_eq_t, q_eq_f, ne_eq, eq_self, Bool.false_eq_true, Bool.true_eq_false, not_true_eq_false, not_false_eq_true, true_and, and_true, false_and, and_false, true_or, or_true, false_or, or_false, if_true, if_false, Int.reduceAdd, Int.reduceMul, Int.reduceSub, Int.reduceNeg, is 0, is 1, q_bf c0, q_bt c1, q1, R_133_0, R_133_9, R_133_12, R_133_17, R_133_18, R_133_27, R_133_30, R_133_35, R_133_36, R_133_45, R_133_50, R_133_60, R_133_63, R_133_70, R_133_71, R_133_78, R_133_88, R_133_93, R_133_99, R_133_102, R_133_109, R_133_110, R_133_115, R_133_122, R_133_125, R_133_129, R_133_132, R_133_137, R_133_144, R_133_151, R_133_154, R_133_161, C_133_6, C_133_14, C_133_24, C_133_32, C_133_42, C_133_57, C_133_67, C_133_75, C_133_96, C_133_106, C_133_119, C_133_148, C_133_158]
    · rw [if_neg c1]
      -- a number behind risk, or behind tick
      have num : ∀ (iC : i < C), TS T E C (q_u s 2 5 ((i + 1 : Nat) : Int)) ∧ q_g (q_u s 2 5 ((i + 1 : Nat) : Int)) 2 5 = ((i + 1 : Nat) : Int) ∧ q_g (q_u s 2 5 ((i + 1 : Nat) : Int)) 5 ((i + 1 : Nat) : Int) = bs T E (i + 1) := fun iC => by
        have T2 : TS T E C (q_u s 2 5 ((i + 1 : Nat) : Int)) := TS_u hT (by omega)
        exact ⟨T2, by rw [q_gu_eq rfl, q_sg_id (by omega) (by omega)], (T2.2.2.2 (i + 1) (by omega)).2.1⟩
      by_cases c2 : thg T E (bs T E i) = 1 ∧ tel T E (bs T E i) = 2
      · rw [if_pos c2]
        have iC := iC_of hT hi (show thg T E (bs T E i) ≠ 0 by omega)
        obtain ⟨T2, m2, b2⟩ := num iC
        have br2 := q_g_rg (q_u s 2 5 ((i + 1 : Nat) : Int)) 5 ((i + 1 : Nat) : Int)
        rw [b2] at br2
        by_cases cV : thg T E (bs T E (i + 1)) = 2 ∧ 0 ≤ tel T E (bs T E (i + 1)) ∧ tel T E (bs T E (i + 1)) ≤ 100
        · rw [if_pos cV]
          refine ⟨fun e he => by simp at he, fun i' w' he => ?_⟩
          have he' := Sum.inr.inj he
          have ei : i + 2 = i' := congrArg Prod.fst he'
          have ew : (w.1, w.2.1, w.2.2.1, tel T E (bs T E (i + 1)), w.2.2.2.2) = w' := congrArg Prod.snd he'
          subst ei
          subst ew
          have iC2 := iC_of T2 (show i + 1 ≤ C by omega) (show thg T E (bs T E (i + 1)) ≠ 0 by omega)
          have g5 : q_g (q_u (q_u s 2 5 ((i + 1 : Nat) : Int)) 68 4 (tel T E (bs T E (i + 1)))) 68 5 = q_g s 68 5 := by rw [q_gu_ne (by omega), q_gu_ne (by omega)]
          have cs := cc_step (d := d + 1) (L := L) (xs := xs) (s := q_u (q_u (q_u s 2 5 ((i + 1 : Nat) : Int)) 68 4 (tel T E (bs T E (i + 1)))) 68 5 (q_g s 68 5)) (O := O) (c := c) (T := T) (E := E) (C := C) (i := i + 1) (TS_u (TS_u T2 (by omega)) (by omega)) (by rw [q_gu_ne (by omega), q_gu_ne (by omega), m2]) iC2
          refine ⟨q_u (q_u (q_u (q_u s 2 5 ((i + 1 : Nat) : Int)) 68 4 (tel T E (bs T E (i + 1)))) 68 5 (q_g s 68 5)) 2 5 ((i + 1 + 1 : Nat) : Int), ?_, ⟨TS_u (TS_u (TS_u T2 (by omega)) (by omega)) (by omega), by rw [q_gu_eq rfl, q_sg_id (by omega) (by omega)], by omega, ?_⟩, FW_u (FW_u (FW_u (FW_u (fun _ _ _ _ _ _ => rfl) (by omega)) (by omega)) (by omega)) (by omega), by rw [q_gu_ne (by omega), q_gu_ne (by omega), q_gu_ne (by omega), q_gu_ne (by omega)]⟩
          · simp (disch := first | omega | exact q_b_01 _) only [↓reduceIte, q_bk0, q_bk1, q_bk2, q_sg_b, q_b_0, q_b_n0, q_b_1, q_b_n1, q_b_T, q_b_F, q_sg_g, q_sg_sg, q_sg_xs, q_sg_id, q_gu_ne, q_gu_eq, q_g_fne, q_g_cpe, q_w_f, q_v_f, q_u_f, q_fn_f, q_cp_f, q_sg_pg, q_sg_hc, q_lt_t, q_lt_f, q_le_t, q_le_f, q_eq_t, q_eq_f, ne_eq, eq_self, Bool.false_eq_true, Bool.true_eq_false, not_true_eq_false, not_false_eq_true, true_and, and_true, false_and, and_false, true_or, or_true, false_or, or_false, if_true, if_false, Int.reduceAdd, Int.reduceMul, Int.reduceSub, Int.reduceNeg, is 0, is 1, is 2, q_bf c0, q_bf c1, q_bt c2, q_bt cV, g5, R_133_0, R_133_9, R_133_12, R_133_17, R_133_18, R_133_27, R_133_30, R_133_35, R_133_36, R_133_45, R_133_50, R_133_60, R_133_63, R_133_70, R_133_71, R_133_78, R_133_88, R_133_93, R_133_99, R_133_102, R_133_109, R_133_110, R_133_115, R_133_122, R_133_125, R_133_129, R_133_132, R_133_137, R_133_144, R_133_151, R_133_154, R_133_161, C_133_6, C_133_14, C_133_24, C_133_32, C_133_42, C_133_57, C_133_67, C_133_75, C_133_96, C_133_106, C_133_119, C_133_148, C_133_158, cc_step hT hm iC, cc_isWithin T2 m2 (show i + 1 ≤ C by omega), cc_told T2 m2 (show i + 1 ≤ C by omega), cs]
          · obtain ⟨h1, h2, h3, h4, h5, h6⟩ := hw
            refine ⟨?_, h2, h3, fun k k0 k1 => ?_, ?_, ?_⟩
            · rw [q_gu_ne (by omega), q_gu_ne (by omega), q_gu_ne (by omega), q_gu_ne (by omega), h1]
            · rw [q_gu_ne (by omega), q_gu_ne (by omega), q_gu_ne (by omega), q_gu_ne (by omega), q_gu_ne (by omega), q_gu_ne (by omega), q_gu_ne (by omega), q_gu_ne (by omega)]
              exact h4 k k0 k1
            · rw [q_gu_ne (by omega), q_gu_ne (by omega), q_gu_eq rfl, q_sg_id (by omega) (by omega)]
            · rw [q_gu_ne (by omega), q_gu_eq rfl, q_sg_g, h6]
        · rw [if_neg cV]
          refine ⟨fun e he => ?_, fun i' w' he => by simp at he⟩
          have he' : bs T E (i + 1) = e := Sum.inl.inj he
          refine ⟨q_u (q_u s 2 5 ((i + 1 : Nat) : Int)) 2 6 (bs T E (i + 1)), ?_, by rw [q_gu_eq rfl, q_sg_id br2.1 br2.2, he'], FW_u (FW_u (fun _ _ _ _ _ _ => rfl) (by omega)) (by omega)⟩
          simp (disch := first | omega | exact q_b_01 _) only [↓reduceIte, q_bk0, q_bk1, q_bk2, q_sg_b, q_b_0, q_b_n0, q_b_1, q_b_n1, q_b_T, q_b_F, q_sg_g, q_sg_sg, q_sg_xs, q_sg_id, q_gu_ne, q_gu_eq, q_g_fne, q_g_cpe, q_w_f, q_v_f, q_u_f, q_fn_f, q_cp_f, q_sg_pg, q_sg_hc, q_lt_t, q_lt_f, q_le_t, q_le_f, q_eq_t, q_eq_f, ne_eq, eq_self, Bool.false_eq_true, Bool.true_eq_false, not_true_eq_false, not_false_eq_true, true_and, and_true, false_and, and_false, true_or, or_true, false_or, or_false, if_true, if_false, Int.reduceAdd, Int.reduceMul, Int.reduceSub, Int.reduceNeg, is 0, is 1, is 2, q_bf c0, q_bf c1, q_bt c2, q_bf cV, R_133_0, R_133_9, R_133_12, R_133_17, R_133_18, R_133_27, R_133_30, R_133_35, R_133_36, R_133_45, R_133_50, R_133_60, R_133_63, R_133_70, R_133_71, R_133_78, R_133_88, R_133_93, R_133_99, R_133_102, R_133_109, R_133_110, R_133_115, R_133_122, R_133_125, R_133_129, R_133_132, R_133_137, R_133_144, R_133_151, R_133_154, R_133_161, C_133_6, C_133_14, C_133_24, C_133_32, C_133_42, C_133_57, C_133_67, C_133_75, C_133_96, C_133_106, C_133_119, C_133_148, C_133_158, cc_step hT hm iC, cc_isWithin T2 m2 (show i + 1 ≤ C by omega), cc_refuse T2 m2 (show i + 1 ≤ C by omega)]
      · rw [if_neg c2]
        by_cases c3 : thg T E (bs T E i) = 1 ∧ tel T E (bs T E i) = 18
        · rw [if_pos c3]
          have iC := iC_of hT hi (show thg T E (bs T E i) ≠ 0 by omega)
          obtain ⟨T2, m2, b2⟩ := num iC
          have br2 := q_g_rg (q_u s 2 5 ((i + 1 : Nat) : Int)) 5 ((i + 1 : Nat) : Int)
          rw [b2] at br2
          by_cases cV : thg T E (bs T E (i + 1)) = 2 ∧ 0 ≤ tel T E (bs T E (i + 1)) ∧ tel T E (bs T E (i + 1)) ≤ 999
          · rw [if_pos cV]
            refine ⟨fun e he => by simp at he, fun i' w' he => ?_⟩
            have he' := Sum.inr.inj he
            have ei : i + 2 = i' := congrArg Prod.fst he'
            have ew : (w.1, w.2.1, w.2.2.1, w.2.2.2.1, tel T E (bs T E (i + 1))) = w' := congrArg Prod.snd he'
            subst ei
            subst ew
            have iC2 := iC_of T2 (show i + 1 ≤ C by omega) (show thg T E (bs T E (i + 1)) ≠ 0 by omega)
            have g4 : q_g (q_u s 2 5 ((i + 1 : Nat) : Int)) 68 4 = q_g s 68 4 := by rw [q_gu_ne (by omega)]
            have cs := cc_step (d := d + 1) (L := L) (xs := xs) (s := q_u (q_u (q_u s 2 5 ((i + 1 : Nat) : Int)) 68 4 (q_g s 68 4)) 68 5 (tel T E (bs T E (i + 1)))) (O := O) (c := c) (T := T) (E := E) (C := C) (i := i + 1) (TS_u (TS_u T2 (by omega)) (by omega)) (by rw [q_gu_ne (by omega), q_gu_ne (by omega), m2]) iC2
            have ct := cc_told (d := d + 1) (L := L) (xs := xs) (s := q_u (q_u s 2 5 ((i + 1 : Nat) : Int)) 68 4 (q_g s 68 4)) (O := O) (c := c) (T := T) (E := E) (C := C) (i := i + 1) (TS_u T2 (by omega)) (by rw [q_gu_ne (by omega), m2]) (show i + 1 ≤ C by omega)
            refine ⟨q_u (q_u (q_u (q_u s 2 5 ((i + 1 : Nat) : Int)) 68 4 (q_g s 68 4)) 68 5 (tel T E (bs T E (i + 1)))) 2 5 ((i + 1 + 1 : Nat) : Int), ?_, ⟨TS_u (TS_u (TS_u T2 (by omega)) (by omega)) (by omega), by rw [q_gu_eq rfl, q_sg_id (by omega) (by omega)], by omega, ?_⟩, FW_u (FW_u (FW_u (FW_u (fun _ _ _ _ _ _ => rfl) (by omega)) (by omega)) (by omega)) (by omega), by rw [q_gu_ne (by omega), q_gu_ne (by omega), q_gu_ne (by omega), q_gu_ne (by omega)]⟩
            · simp (disch := first | omega | exact q_b_01 _) only [↓reduceIte, q_bk0, q_bk1, q_bk2, q_sg_b, q_b_0, q_b_n0, q_b_1, q_b_n1, q_b_T, q_b_F, q_sg_g, q_sg_sg, q_sg_xs, q_sg_id, q_gu_ne, q_gu_eq, q_g_fne, q_g_cpe, q_w_f, q_v_f, q_u_f, q_fn_f, q_cp_f, q_sg_pg, q_sg_hc, q_lt_t, q_lt_f, q_le_t, q_le_f, q_eq_t, q_eq_f, ne_eq, eq_self, Bool.false_eq_true, Bool.true_eq_false, not_true_eq_false, not_false_eq_true, true_and, and_true, false_and, and_false, true_or, or_true, false_or, or_false, if_true, if_false, Int.reduceAdd, Int.reduceMul, Int.reduceSub, Int.reduceNeg, is 0, is 1, is 2, is 18, q_bf c0, q_bf c1, q_bf c2, q_bt c3, q_bt cV, g4, ct, R_133_0, R_133_9, R_133_12, R_133_17, R_133_18, R_133_27, R_133_30, R_133_35, R_133_36, R_133_45, R_133_50, R_133_60, R_133_63, R_133_70, R_133_71, R_133_78, R_133_88, R_133_93, R_133_99, R_133_102, R_133_109, R_133_110, R_133_115, R_133_122, R_133_125, R_133_129, R_133_132, R_133_137, R_133_144, R_133_151, R_133_154, R_133_161, C_133_6, C_133_14, C_133_24, C_133_32, C_133_42, C_133_57, C_133_67, C_133_75, C_133_96, C_133_106, C_133_119, C_133_148, C_133_158, cc_step hT hm iC, cc_isWithin T2 m2 (show i + 1 ≤ C by omega), cs]
            · obtain ⟨h1, h2, h3, h4, h5, h6⟩ := hw
              refine ⟨?_, h2, h3, fun k k0 k1 => ?_, ?_, ?_⟩
              · rw [q_gu_ne (by omega), q_gu_ne (by omega), q_gu_ne (by omega), q_gu_ne (by omega), h1]
              · rw [q_gu_ne (by omega), q_gu_ne (by omega), q_gu_ne (by omega), q_gu_ne (by omega), q_gu_ne (by omega), q_gu_ne (by omega), q_gu_ne (by omega), q_gu_ne (by omega)]
                exact h4 k k0 k1
              · rw [q_gu_ne (by omega), q_gu_ne (by omega), q_gu_eq rfl, q_sg_g, h5]
              · rw [q_gu_ne (by omega), q_gu_eq rfl, q_sg_id (by omega) (by omega)]
          · rw [if_neg cV]
            refine ⟨fun e he => ?_, fun i' w' he => by simp at he⟩
            have he' : bs T E (i + 1) = e := Sum.inl.inj he
            refine ⟨q_u (q_u s 2 5 ((i + 1 : Nat) : Int)) 2 6 (bs T E (i + 1)), ?_, by rw [q_gu_eq rfl, q_sg_id br2.1 br2.2, he'], FW_u (FW_u (fun _ _ _ _ _ _ => rfl) (by omega)) (by omega)⟩
            simp (disch := first | omega | exact q_b_01 _) only [↓reduceIte, q_bk0, q_bk1, q_bk2, q_sg_b, q_b_0, q_b_n0, q_b_1, q_b_n1, q_b_T, q_b_F, q_sg_g, q_sg_sg, q_sg_xs, q_sg_id, q_gu_ne, q_gu_eq, q_g_fne, q_g_cpe, q_w_f, q_v_f, q_u_f, q_fn_f, q_cp_f, q_sg_pg, q_sg_hc, q_lt_t, q_lt_f, q_le_t, q_le_f, q_eq_t, q_eq_f, ne_eq, eq_self, Bool.false_eq_true, Bool.true_eq_false, not_true_eq_false, not_false_eq_true, true_and, and_true, false_and, and_false, true_or, or_true, false_or, or_false, if_true, if_false, Int.reduceAdd, Int.reduceMul, Int.reduceSub, Int.reduceNeg, is 0, is 1, is 2, is 18, q_bf c0, q_bf c1, q_bf c2, q_bt c3, q_bf cV, R_133_0, R_133_9, R_133_12, R_133_17, R_133_18, R_133_27, R_133_30, R_133_35, R_133_36, R_133_45, R_133_50, R_133_60, R_133_63, R_133_70, R_133_71, R_133_78, R_133_88, R_133_93, R_133_99, R_133_102, R_133_109, R_133_110, R_133_115, R_133_122, R_133_125, R_133_129, R_133_132, R_133_137, R_133_144, R_133_151, R_133_154, R_133_161, C_133_6, C_133_14, C_133_24, C_133_32, C_133_42, C_133_57, C_133_67, C_133_75, C_133_96, C_133_106, C_133_119, C_133_148, C_133_158, cc_step hT hm iC, cc_isWithin T2 m2 (show i + 1 ≤ C by omega), cc_refuse T2 m2 (show i + 1 ≤ C by omega)]
        · rw [if_neg c3]
          refine ⟨fun e he => ?_, fun i' w' he => by simp at he⟩
          have he' : bs T E i = e := Sum.inl.inj he
          refine ⟨q_u s 2 6 (bs T E i), ?_, by rw [q_gu_eq rfl, q_sg_id br.1 br.2, he'], FW_u (fun _ _ _ _ _ _ => rfl) (by omega)⟩
          simp (disch := first | omega | exact q_b_01 _) only [↓reduceIte, q_bk0, q_bk1, q_bk2, q_sg_b, q_b_0, q_b_n0, q_b_1, q_b_n1, q_b_T, q_b_F, q_sg_g, q_sg_sg, q_sg_xs, q_sg_id, q_gu_ne, q_gu_eq, q_g_fne, q_g_cpe, q_w_f, q_v_f, q_u_f, q_fn_f, q_cp_f, q_sg_pg, q_sg_hc, q_lt_t, q_lt_f, q_le_t, q_le_f, q_eq_t, q_eq_f, ne_eq, eq_self, Bool.false_eq_true, Bool.true_eq_false, not_true_eq_false, not_false_eq_true, true_and, and_true, false_and, and_false, true_or, or_true, false_or, or_false, if_true, if_false, Int.reduceAdd, Int.reduceMul, Int.reduceSub, Int.reduceNeg, is 0, is 1, is 2, is 18, q_bf c0, q_bf c1, q_bf c2, q_bf c3, R_133_0, R_133_9, R_133_12, R_133_17, R_133_18, R_133_27, R_133_30, R_133_35, R_133_36, R_133_45, R_133_50, R_133_60, R_133_63, R_133_70, R_133_71, R_133_78, R_133_88, R_133_93, R_133_99, R_133_102, R_133_109, R_133_110, R_133_115, R_133_122, R_133_125, R_133_129, R_133_132, R_133_137, R_133_144, R_133_151, R_133_154, R_133_161, C_133_6, C_133_14, C_133_24, C_133_32, C_133_42, C_133_57, C_133_67, C_133_75, C_133_96, C_133_106, C_133_119, C_133_148, C_133_158, cc_refuse hT hm hi]
end CW2
