/-! THE CLASS: a text of a law, all of it -/
def LW (ls : List (Int × Int × List Int)) (b : Nat) (s : Nat → Int → Int32) : Prop := q_g s b 0 = ls.length ∧ ls.length ≤ 12 ∧ (∀ k : Nat, k < ls.length → q_g s (b + 1) k = (ls.getD k (0, 0, [])).1 ∧ q_g s (b + 2) k = (ls.getD k (0, 0, [])).2.1 ∧ q_g s (b + 3) k = (fl (ls.take (k + 1))).length) ∧ (fl ls).length ≤ 400 ∧ q_g s b 5 = (fl ls).length ∧ ∀ k : Nat, k < (fl ls).length → q_g s (b + 4) k = (fl ls).getD k 0
section CLP
variable {d L : Nat} {xs : Nat → Int32} {O : Nat → Int64} {c : Bool × Nat × Nat} {T : Int → Int} {E : Int} {C : Nat} {s t u : Nat → Int → Int32}
theorem cc_lL (hr : ∀ j, 0 ≤ j → j < E → 0 ≤ T j ∧ T j ≤ 255) : ∀ (f : Nat) (j : Int) (i : Nat) (ls : List (Int × Int × List Int)) (s : Nat → Int → Int32), j + f = 12 → j = ls.length → CL T E C i (fl ls) s → LSt ls s → (fl ls).length ≤ i → (∀ e, lLines T E f i ls = .inl e → ∃ t, EV (d + 24) 77 30 [.ref 67, .int (q_I (j))] [] (q_h L xs s O c) = some (.inl (some (.int (q_I (0)))), q_h L xs (t) O c) ∧ q_g t 2 6 = e ∧ FLL s t) ∧ ∀ ls', lLines T E f i ls = .inr ls' → ∃ t, EV (d + 24) 77 30 [.ref 67, .int (q_I (j))] [] (q_h L xs s O c) = some (.inl (some (.int (q_I (1)))), q_h L xs (t) O c) ∧ LW ls' 55 t ∧ FLL s t ∧ q_g t 2 6 = q_g s 2 6
  | 0, j, i, ls, s, hj, j0, hp, hS, hc => by
    refine ⟨fun e he => ?_, fun w' he => by simp [lLines] at he⟩
    have he' : bs T E i = e := Sum.inl.inj he
    obtain ⟨u, b1, b2, b3⟩ := cc_ref (d := d + 23) (L := L) (xs := xs) (O := O) (c := c) hp
    refine ⟨u, ?_, by rw [b2, he'], FLL_of b3⟩
    rw [R_77_30]
    simp (disch := first | omega | exact q_b_01 _) only [↓reduceIte, q_bk0, q_bk1, q_bk2, q_sg_b, q_b_0, q_b_n0, q_b_1, q_b_n1, q_b_T, q_b_F, q_sg_g, q_sg_sg, q_sg_xs, q_sg_id, q_gu_ne, q_gu_eq, q_g_fne, q_g_cpe, q_w_f, q_v_f, q_u_f, q_fn_f, q_cp_f, q_sg_pg, q_sg_hc, q_lt_t, q_lt_f, q_le_t, q_le_f, q_eq_t, q_eq_f, ne_eq, eq_self, Bool.false_eq_true, Bool.true_eq_false, not_true_eq_false, not_false_eq_true, true_and, and_true, false_and, and_false, true_or, or_true, false_or, or_false, if_true, if_false, Int.reduceAdd, Int.reduceMul, Int.reduceSub, Int.reduceNeg, b1, R_77_0, R_77_7, R_77_14, R_77_23, R_77_26, R_77_28, R_77_36, R_77_40, R_77_43, R_77_45, R_77_54, R_77_57, R_77_59, R_77_69, R_77_72, R_77_79, R_77_80, R_77_87, R_77_93, R_77_100, C_77_4, C_77_11, C_77_20, C_77_37, C_77_51, C_77_66, C_77_76, C_77_84, C_77_97]
  | f + 1, j, i, ls, s, hj, j0, hp, hS, hc => by
    have k := cc_lline (d := d) (L := L) (xs := xs) (O := O) (c := c) hr hp hS (by omega) hc
    unfold lLines
    cases hl : lLine T E i with
    | inl e0 =>
      rw [hl] at k
      obtain ⟨t, q1, q2, q3⟩ := k
      refine ⟨fun e he => ?_, fun w' he => by simp at he⟩
      have he' : e0 = e := Sum.inl.inj he
      refine ⟨t, ?_, by rw [q2, he'], q3⟩
      rw [R_77_30]
      simp (disch := first | omega | exact q_b_01 _) only [↓reduceIte, q_bk0, q_bk1, q_bk2, q_sg_b, q_b_0, q_b_n0, q_b_1, q_b_n1, q_b_T, q_b_F, q_sg_g, q_sg_sg, q_sg_xs, q_sg_id, q_gu_ne, q_gu_eq, q_g_fne, q_g_cpe, q_w_f, q_v_f, q_u_f, q_fn_f, q_cp_f, q_sg_pg, q_sg_hc, q_lt_t, q_lt_f, q_le_t, q_le_f, q_eq_t, q_eq_f, ne_eq, eq_self, Bool.false_eq_true, Bool.true_eq_false, not_true_eq_false, not_false_eq_true, true_and, and_true, false_and, and_false, true_or, or_true, false_or, or_false, if_true, if_false, Int.reduceAdd, Int.reduceMul, Int.reduceSub, Int.reduceNeg, q1, R_77_0, R_77_7, R_77_14, R_77_23, R_77_26, R_77_28, R_77_36, R_77_40, R_77_43, R_77_45, R_77_54, R_77_57, R_77_59, R_77_69, R_77_72, R_77_79, R_77_80, R_77_87, R_77_93, R_77_100, C_77_4, C_77_11, C_77_20, C_77_37, C_77_51, C_77_66, C_77_76, C_77_84, C_77_97]
    | inr p =>
      rw [hl] at k
      obtain ⟨i', w, n, l⟩ := p
      obtain ⟨t, q1, q2, q3, q4, q5, q6⟩ := k
      have q2' : CL T E C i' (fl (ls ++ [(w, n, l)])) t := q2
      have q4' : (fl (ls ++ [(w, n, l)])).length ≤ i' := q4
      have hC := q2'.1.1
      have hi := q2'.2.2.1
      have cis := cc_is (d := d + 23) (L := L) (xs := xs) (O := O) (c := c) (th := 0) (to := -1) q2'.1 q2'.2.1 hi (by omega) (by omega) (by omega) (by omega)
      have ci9 := cc_is (d := d + 23) (L := L) (xs := xs) (O := O) (c := c) (th := 3) (to := 59) q2'.1 q2'.2.1 hi (by omega) (by omega) (by omega) (by omega)
      simp only [thg_t0] at cis
      show (∀ e, (if thg T E (bs T E i') = 0 then Sum.inr (ls ++ [(w, n, l)]) else if tk T E i' 3 59 then lLines T E f (i' + 1) (ls ++ [(w, n, l)]) else Sum.inl (bs T E i')) = Sum.inl e → _) ∧ ∀ w', (if thg T E (bs T E i') = 0 then Sum.inr (ls ++ [(w, n, l)]) else if tk T E i' 3 59 then lLines T E f (i' + 1) (ls ++ [(w, n, l)]) else Sum.inl (bs T E i')) = Sum.inr w' → _
      by_cases c0 : thg T E (bs T E i') = 0
      · rw [if_pos c0]
        refine ⟨fun e he => by simp at he, fun w' he => ?_⟩
        have he' : ls ++ [(w, n, l)] = w' := Sum.inr.inj he
        subst he'
        refine ⟨t, ?_, ⟨q3.1, q3.2.1, q3.2.2, by omega, q2'.2.2.2.1, q2'.2.2.2.2⟩, q6, q5⟩
        rw [R_77_30]
        simp (disch := first | omega | exact q_b_01 _) only [↓reduceIte, q_bk0, q_bk1, q_bk2, q_sg_b, q_b_0, q_b_n0, q_b_1, q_b_n1, q_b_T, q_b_F, q_sg_g, q_sg_sg, q_sg_xs, q_sg_id, q_gu_ne, q_gu_eq, q_g_fne, q_g_cpe, q_w_f, q_v_f, q_u_f, q_fn_f, q_cp_f, q_sg_pg, q_sg_hc, q_lt_t, q_lt_f, q_le_t, q_le_f, q_eq_t, q_eq_f, ne_eq, eq_self, Bool.false_eq_true, Bool.true_eq_false, not_true_eq_false, not_false_eq_true, true_and, and_true, false_and, and_false, true_or, or_true, false_or, or_false, if_true, if_false, Int.reduceAdd, Int.reduceMul, Int.reduceSub, Int.reduceNeg, q1, cis, q_bt c0, R_77_0, R_77_7, R_77_14, R_77_23, R_77_26, R_77_28, R_77_36, R_77_40, R_77_43, R_77_45, R_77_54, R_77_57, R_77_59, R_77_69, R_77_72, R_77_79, R_77_80, R_77_87, R_77_93, R_77_100, C_77_4, C_77_11, C_77_20, C_77_37, C_77_51, C_77_66, C_77_76, C_77_84, C_77_97]
      · rw [if_neg c0]
        by_cases c9 : tk T E i' 3 59
        · rw [if_pos c9]
          have iC := CL_lt q2' c0
          have cs := cc_step (d := d + 23) (L := L) (xs := xs) (O := O) (c := c) q2'.1 q2'.2.1 iC
          have P := CL_step q2' iC
          have F2 : FL t (q_u t 2 5 ((i' + 1 : Nat) : Int)) := FL_u FL_refl (by omega)
          have hS2 := LSt_fr q3 F2 (by rw [q_gu_ne (by omega)])
          have st : EV (d + 24) 77 30 [.ref 67, .int (q_I (j))] [] (q_h L xs s O c) = EV (d + 24) 77 30 [.ref 67, .int (q_I (j + 1))] [] (q_h L xs (q_u t 2 5 ((i' + 1 : Nat) : Int)) O c) := by
            rw [R_77_30]
            simp (disch := first | omega | exact q_b_01 _) only [↓reduceIte, q_bk0, q_bk1, q_bk2, q_sg_b, q_b_0, q_b_n0, q_b_1, q_b_n1, q_b_T, q_b_F, q_sg_g, q_sg_sg, q_sg_xs, q_sg_id, q_gu_ne, q_gu_eq, q_g_fne, q_g_cpe, q_w_f, q_v_f, q_u_f, q_fn_f, q_cp_f, q_sg_pg, q_sg_hc, q_lt_t, q_lt_f, q_le_t, q_le_f, q_eq_t, q_eq_f, ne_eq, eq_self, Bool.false_eq_true, Bool.true_eq_false, not_true_eq_false, not_false_eq_true, true_and, and_true, false_and, and_false, true_or, or_true, false_or, or_false, if_true, if_false, Int.reduceAdd, Int.reduceMul, Int.reduceSub, Int.reduceNeg, q1, cis, ci9, q_bf c0, q_bt c9, cs, R_77_0, R_77_7, R_77_14, R_77_23, R_77_26, R_77_28, R_77_36, R_77_40, R_77_43, R_77_45, R_77_54, R_77_57, R_77_59, R_77_69, R_77_72, R_77_79, R_77_80, R_77_87, R_77_93, R_77_100, C_77_4, C_77_11, C_77_20, C_77_37, C_77_51, C_77_66, C_77_76, C_77_84, C_77_97]
          have F : FLL s (q_u t 2 5 ((i' + 1 : Nat) : Int)) := FLL_u q6 (by omega)
          obtain ⟨n1, n2⟩ := cc_lL hr f (j + 1) (i' + 1) (ls ++ [(w, n, l)]) _ (by omega) (by simp; omega) P hS2 (by omega)
          rw [st]
          refine ⟨fun e he => ?_, fun w' he => ?_⟩
          · obtain ⟨t', r1, r2, r3⟩ := n1 e he
            exact ⟨t', r1, r2, FLL_trans F r3⟩
          · obtain ⟨t', r1, r2, r3, r4⟩ := n2 w' he
            exact ⟨t', r1, r2, FLL_trans F r3, by rw [r4, q_gu_ne (by omega), q5]⟩
        · rw [if_neg c9]
          refine ⟨fun e he => ?_, fun w' he => by simp at he⟩
          have he' : bs T E i' = e := Sum.inl.inj he
          obtain ⟨u, b1, b2, b3⟩ := cc_ref (d := d + 23) (L := L) (xs := xs) (O := O) (c := c) q2'
          refine ⟨u, ?_, by rw [b2, he'], FLL_trans q6 (FLL_of b3)⟩
          rw [R_77_30]
          simp (disch := first | omega | exact q_b_01 _) only [↓reduceIte, q_bk0, q_bk1, q_bk2, q_sg_b, q_b_0, q_b_n0, q_b_1, q_b_n1, q_b_T, q_b_F, q_sg_g, q_sg_sg, q_sg_xs, q_sg_id, q_gu_ne, q_gu_eq, q_g_fne, q_g_cpe, q_w_f, q_v_f, q_u_f, q_fn_f, q_cp_f, q_sg_pg, q_sg_hc, q_lt_t, q_lt_f, q_le_t, q_le_f, q_eq_t, q_eq_f, ne_eq, eq_self, Bool.false_eq_true, Bool.true_eq_false, not_true_eq_false, not_false_eq_true, true_and, and_true, false_and, and_false, true_or, or_true, false_or, or_false, if_true, if_false, Int.reduceAdd, Int.reduceMul, Int.reduceSub, Int.reduceNeg, q1, cis, ci9, q_bf c0, q_bf c9, b1, R_77_0, R_77_7, R_77_14, R_77_23, R_77_26, R_77_28, R_77_36, R_77_40, R_77_43, R_77_45, R_77_54, R_77_57, R_77_59, R_77_69, R_77_72, R_77_79, R_77_80, R_77_87, R_77_93, R_77_100, C_77_4, C_77_11, C_77_20, C_77_37, C_77_51, C_77_66, C_77_76, C_77_84, C_77_97]
theorem cc_lparse (hE : q_g s 2 1 = E) (E0 : 0 ≤ E) (E1 : E ≤ 400) (hT : ∀ j, 0 ≤ j → j < E → q_g s 3 j = T j ∧ 0 ≤ T j ∧ T j ≤ 255) : ∃ t, (∀ k z, k ≠ 2 → k ≠ 4 → k ≠ 5 → k ≠ 6 → (k < 55 ∨ 59 < k) → t k z = s k z) ∧ (∀ z, z ≠ 1 → z ≠ 5 → z ≠ 6 → t 2 z = s 2 z) ∧ q_g t 2 1 = 0 ∧ (∀ e, lAll T E = .inl e → EV (d + 24) 77 0 [.ref 67, .null] [] (q_h L xs s O c) = some (.inl (some (.int (q_I (0)))), q_h L xs (t) O c) ∧ q_g t 2 6 = e) ∧ ∀ ls, lAll T E = .inr ls → EV (d + 24) 77 0 [.ref 67, .null] [] (q_h L xs s O c) = some (.inl (some (.int (q_I (1)))), q_h L xs (t) O c) ∧ q_g t 2 6 = -1 ∧ LW ls 55 t := by
  have hr : ∀ j, 0 ≤ j → j < E → 0 ≤ T j ∧ T j ≤ 255 := fun j h1 h2 => (hT j h1 h2).2
  obtain ⟨C, t, e1, e2, e3, e4, e5, e6⟩ := cc_scan (d := d + 12) (L := L) (xs := xs) (O := O) (c := c) (s := q_u (q_u s 55 0 0) 55 5 0) (T := T) (E := E) (by rw [q_gu_ne (by omega), q_gu_ne (by omega), hE]) E0 E1 (fun j h1 h2 => by rw [q_gu_ne (by omega), q_gu_ne (by omega)]; exact hT j h1 h2)
  have g : ∀ z, q_g t 55 z = q_g (q_u (q_u s 55 0 0) 55 5 0) 55 z := fun z => by
    show (t 55 z).toInt = _
    rw [e6 55 z (by decide) (by decide) (by decide) (by omega)]
    rfl
  have g0 : q_g t 55 0 = 0 := by rw [g, q_gu_ne (by omega), q_gu_eq rfl]; rfl
  have g5 : q_g t 55 5 = 0 := by rw [g, q_gu_eq rfl]; rfl
  have hS : LSt [] t := ⟨by rw [g0]; rfl, by decide, fun k hk => absurd hk (Nat.not_lt_zero _)⟩
  have P : CL T E C 0 (fl []) t := ⟨e2, e4, Nat.zero_le _, by rw [g5]; rfl, fun k hk => absurd hk (Nat.not_lt_zero _)⟩
  have cis := cc_is (d := d + 23) (L := L) (xs := xs) (O := O) (c := c) (th := 0) (to := -1) (i := 0) e2 e4 (Nat.zero_le _) (by omega) (by omega) (by omega) (by omega)
  simp only [thg_t0] at cis
  have fin : ∀ t', FLL t t' → (∀ k z, k ≠ 2 → k ≠ 4 → k ≠ 5 → k ≠ 6 → (k < 55 ∨ 59 < k) → t' k z = s k z) ∧ (∀ z, z ≠ 1 → z ≠ 5 → z ≠ 6 → t' 2 z = s 2 z) ∧ q_g t' 2 1 = 0 := fun t' F => by
    refine ⟨fun k z a1 a2 a3 a4 a5 => ?_, fun z a1 a2 a3 => ?_, ?_⟩
    · rw [F k z a5 (by omega), e6 k z a2 a3 a4 (by omega), q_u_n (by omega), q_u_n (by omega)]
    · rw [F 2 z (by omega) (by omega), e6 2 z (by decide) (by decide) (by decide) (by omega), q_u_n (by omega), q_u_n (by omega)]
    · show (t' 2 1).toInt = 0
      rw [F 2 1 (by omega) (by omega)]
      exact e3
  by_cases c0 : thg T E (bs T E 0) = 0
  · obtain ⟨f1, f2, f3⟩ := fin t (fun _ _ _ _ => rfl)
    refine ⟨t, f1, f2, f3, fun e he => ?_, fun w hw => ?_⟩
    · unfold lAll at he
      rw [if_pos c0] at he
      simp at he
    · unfold lAll at hw
      rw [if_pos c0] at hw
      have he' : [] = w := Sum.inr.inj hw
      subst he'
      refine ⟨?_, e5, ⟨by rw [g0]; rfl, by decide, fun k hk => absurd hk (Nat.not_lt_zero _), by decide, by rw [g5]; rfl, fun k hk => absurd hk (Nat.not_lt_zero _)⟩⟩
      simp (disch := first | omega | exact q_b_01 _) only [↓reduceIte, q_bk0, q_bk1, q_bk2, q_sg_b, q_b_0, q_b_n0, q_b_1, q_b_n1, q_b_T, q_b_F, q_sg_g, q_sg_sg, q_sg_xs, q_sg_id, q_gu_ne, q_gu_eq, q_g_fne, q_g_cpe, q_w_f, q_v_f, q_u_f, q_fn_f, q_cp_f, q_sg_pg, q_sg_hc, q_lt_t, q_lt_f, q_le_t, q_le_f, q_eq_t, q_eq_f, ne_eq, eq_self, Bool.false_eq_true, Bool.true_eq_false, not_true_eq_false, not_false_eq_true, true_and, and_true, false_and, and_false, true_or, or_true, false_or, or_false, if_true, if_false, Int.reduceAdd, Int.reduceMul, Int.reduceSub, Int.reduceNeg, e1, cis, q_bt c0, R_77_0, R_77_7, R_77_14, R_77_23, R_77_26, R_77_28, R_77_36, R_77_40, R_77_43, R_77_45, R_77_54, R_77_57, R_77_59, R_77_69, R_77_72, R_77_79, R_77_80, R_77_87, R_77_93, R_77_100, C_77_4, C_77_11, C_77_20, C_77_37, C_77_51, C_77_66, C_77_76, C_77_84, C_77_97, R_69_0, R_69_5, R_69_10]
  · have st : EV (d + 24) 77 0 [.ref 67, .null] [] (q_h L xs s O c) = EV (d + 24) 77 30 [.ref 67, .int (q_I (0))] [] (q_h L xs (t) O c) := by
      simp (disch := first | omega | exact q_b_01 _) only [↓reduceIte, q_bk0, q_bk1, q_bk2, q_sg_b, q_b_0, q_b_n0, q_b_1, q_b_n1, q_b_T, q_b_F, q_sg_g, q_sg_sg, q_sg_xs, q_sg_id, q_gu_ne, q_gu_eq, q_g_fne, q_g_cpe, q_w_f, q_v_f, q_u_f, q_fn_f, q_cp_f, q_sg_pg, q_sg_hc, q_lt_t, q_lt_f, q_le_t, q_le_f, q_eq_t, q_eq_f, ne_eq, eq_self, Bool.false_eq_true, Bool.true_eq_false, not_true_eq_false, not_false_eq_true, true_and, and_true, false_and, and_false, true_or, or_true, false_or, or_false, if_true, if_false, Int.reduceAdd, Int.reduceMul, Int.reduceSub, Int.reduceNeg, e1, cis, q_bf c0, R_77_0, R_77_7, R_77_14, R_77_23, R_77_26, R_77_28, R_77_36, R_77_40, R_77_43, R_77_45, R_77_54, R_77_57, R_77_59, R_77_69, R_77_72, R_77_79, R_77_80, R_77_87, R_77_93, R_77_100, C_77_4, C_77_11, C_77_20, C_77_37, C_77_51, C_77_66, C_77_76, C_77_84, C_77_97, R_69_0, R_69_5, R_69_10]
    obtain ⟨n1, n2⟩ := cc_lL (d := d) (L := L) (xs := xs) (O := O) (c := c) hr 12 0 0 [] t (by omega) (by rfl) P hS (by decide)
    have ea : lAll T E = lLines T E 12 0 [] := if_neg c0
    cases hc : lLines T E 12 0 [] with
    | inl e =>
      obtain ⟨t', r1, r2, r3⟩ := n1 e hc
      obtain ⟨f1, f2, f3⟩ := fin t' r3
      refine ⟨t', f1, f2, f3, fun e' he => ?_, fun w hw => ?_⟩
      · rw [ea, hc] at he
        have he' : e = e' := Sum.inl.inj he
        rw [st]
        exact ⟨r1, by rw [r2, he']⟩
      · rw [ea, hc] at hw
        simp at hw
    | inr w1 =>
      obtain ⟨t', r1, r2, r3, r4⟩ := n2 w1 hc
      obtain ⟨f1, f2, f3⟩ := fin t' r3
      refine ⟨t', f1, f2, f3, fun e' he => ?_, fun w hw => ?_⟩
      · rw [ea, hc] at he
        simp at he
      · rw [ea, hc] at hw
        have he' : w1 = w := Sum.inr.inj hw
        subst he'
        rw [st]
        exact ⟨r1, by rw [r4, e5], r2⟩
end CLP
