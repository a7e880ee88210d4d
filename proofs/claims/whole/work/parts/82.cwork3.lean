/-! THE CLASS: a text of work -/
def w0 : Int × (Int → Int) × (Int → Int) × Int × Int := (0, (fun _ => 0), (fun _ => 0), -1, -1)
def wAll (T : Int → Int) (E : Int) : Sum Int (Int × (Int → Int) × (Int → Int) × Int × Int) := if thg T E (bs T E 0) = 0 then .inr w0 else wLines T E 14 0 w0
section CW3
variable {d L : Nat} {xs : Nat → Int32} {s t u : Nat → Int → Int32} {O : Nat → Int64} {c : Bool × Nat × Nat} {T : Int → Int} {E : Int} {C i : Nat} {w : Int × (Int → Int) × (Int → Int) × Int × Int}
theorem thg_t0 {b : Int} : (thg T E b = 0 ∧ tel T E b = -1) ↔ thg T E b = 0 := by
  refine ⟨fun h => h.1, fun h => ⟨h, ?_⟩⟩
  unfold thg at h
  unfold tel
  by_cases e : E ≤ b
  · rw [if_pos e]
  · rw [if_neg e] at h
    split at h
    · omega
    · split at h <;> omega
theorem cc_wL (hr : ∀ j, 0 ≤ j → j < E → 0 ≤ T j ∧ T j ≤ 255) : ∀ (f : Nat) (j : Int) (i : Nat) (w : Int × (Int → Int) × (Int → Int) × Int × Int) (s : Nat → Int → Int32), j + f = 14 → 0 ≤ j → PS T E C i w s → (∀ e, wLines T E f i w = .inl e → ∃ t, EV (d + 3) 132 38 [.ref 68, .int (q_I (j))] [] (q_h L xs s O c) = some (.inl (some (.int (q_I (0)))), q_h L xs (t) O c) ∧ q_g t 2 6 = e ∧ FW s t) ∧ ∀ w', wLines T E f i w = .inr w' → ∃ t, EV (d + 3) 132 38 [.ref 68, .int (q_I (j))] [] (q_h L xs s O c) = some (.inl (some (.int (q_I (1)))), q_h L xs (t) O c) ∧ CW w' t ∧ FW s t ∧ q_g t 2 6 = q_g s 2 6
  | 0, j, i, w, s, hj, j0, hp => by
    refine ⟨fun e he => ?_, fun w' he => ?_⟩
    · have he' : bs T E i = e := Sum.inl.inj he
      have b1 : q_g s 5 i = bs T E i := (hp.1.2.2.2 i hp.2.2.1).2.1
      have br := q_g_rg s 5 i
      rw [b1] at br
      refine ⟨q_u s 2 6 (bs T E i), ?_, ?_, FW_u (fun _ _ _ _ _ _ => rfl) (by omega)⟩
      · rw [R_132_38]
        simp (disch := first | omega | exact q_b_01 _) only [↓reduceIte, q_bk0, q_bk1, q_bk2, q_sg_b, q_b_0, q_b_n0, q_b_1, q_b_n1, q_b_T, q_b_F, q_sg_g, q_sg_sg, q_sg_xs, q_sg_id, q_gu_ne, q_gu_eq, q_g_fne, q_g_cpe, q_w_f, q_v_f, q_u_f, q_fn_f, q_cp_f, q_sg_pg, q_sg_hc, q_lt_t, q_lt_f, q_le_t, q_le_f, q_eq_t, q_eq_f, ne_eq, eq_self, Bool.false_eq_true, Bool.true_eq_false, not_true_eq_false, not_false_eq_true, true_and, and_true, false_and, and_false, true_or, or_true, false_or, or_false, if_true, if_false, Int.reduceAdd, Int.reduceMul, Int.reduceSub, Int.reduceNeg, R_132_0, R_132_5, R_132_10, R_132_15, R_132_22, R_132_31, R_132_34, R_132_36, R_132_44, R_132_48, R_132_51, R_132_53, R_132_62, R_132_65, R_132_67, R_132_77, R_132_80, R_132_87, R_132_88, R_132_95, R_132_101, R_132_108, C_132_19, C_132_28, C_132_45, C_132_59, C_132_74, C_132_84, C_132_92, C_132_105, cc_refuse hp.1 hp.2.1 hp.2.2.1]
      · rw [q_gu_eq rfl, q_sg_id br.1 br.2, he']
    · exact absurd he (by simp [wLines])
  | f + 1, j, i, w, s, hj, j0, hp => by
    obtain ⟨k1, k2⟩ := cc_wline (d := d) (L := L) (xs := xs) (O := O) (c := c) hr hp
    unfold wLines
    cases hl : wLine T E i w with
    | inl e0 =>
      obtain ⟨t, q1, q2, q3⟩ := k1 e0 hl
      refine ⟨fun e he => ?_, fun w' he => by simp at he⟩
      have he' : e0 = e := Sum.inl.inj he
      refine ⟨t, ?_, by rw [q2, he'], q3⟩
      rw [R_132_38]
      simp (disch := first | omega | exact q_b_01 _) only [↓reduceIte, q_bk0, q_bk1, q_bk2, q_sg_b, q_b_0, q_b_n0, q_b_1, q_b_n1, q_b_T, q_b_F, q_sg_g, q_sg_sg, q_sg_xs, q_sg_id, q_gu_ne, q_gu_eq, q_g_fne, q_g_cpe, q_w_f, q_v_f, q_u_f, q_fn_f, q_cp_f, q_sg_pg, q_sg_hc, q_lt_t, q_lt_f, q_le_t, q_le_f, q_eq_t, q_eq_f, ne_eq, eq_self, Bool.false_eq_true, Bool.true_eq_false, not_true_eq_false, not_false_eq_true, true_and, and_true, false_and, and_false, true_or, or_true, false_or, or_false, if_true, if_false, Int.reduceAdd, Int.reduceMul, Int.reduceSub, Int.reduceNeg, q1, R_132_0, R_132_5, R_132_10, R_132_15, R_132_22, R_132_31, R_132_34, R_132_36, R_132_44, R_132_48, R_132_51, R_132_53, R_132_62, R_132_65, R_132_67, R_132_77, R_132_80, R_132_87, R_132_88, R_132_95, R_132_101, R_132_108, C_132_19, C_132_28, C_132_45, C_132_59, C_132_74, C_132_84, C_132_92, C_132_105]
    | inr p =>
      obtain ⟨i', w1⟩ := p
      obtain ⟨t, q1, q2, q3, q4⟩ := k2 i' w1 hl
      obtain ⟨hT, hm, hi, hw⟩ := q2
      have hC := hT.1
      have cis := cc_is (d := d + 2) (L := L) (xs := xs) (O := O) (c := c) (th := 0) (to := -1) hT hm hi (by omega) (by omega) (by omega) (by omega)
      have ci9 := cc_is (d := d + 2) (L := L) (xs := xs) (O := O) (c := c) (th := 3) (to := 59) hT hm hi (by omega) (by omega) (by omega) (by omega)
      simp only [thg_t0] at cis
      have b1 : q_g t 5 i' = bs T E i' := (hT.2.2.2 i' hi).2.1
      have br := q_g_rg t 5 i'
      rw [b1] at br
      show (∀ e, (if thg T E (bs T E i') = 0 then Sum.inr w1 else if thg T E (bs T E i') = 3 ∧ tel T E (bs T E i') = 59 then wLines T E f (i' + 1) w1 else Sum.inl (bs T E i')) = Sum.inl e → _) ∧ ∀ w', (if thg T E (bs T E i') = 0 then Sum.inr w1 else if thg T E (bs T E i') = 3 ∧ tel T E (bs T E i') = 59 then wLines T E f (i' + 1) w1 else Sum.inl (bs T E i')) = Sum.inr w' → _
      by_cases c0 : thg T E (bs T E i') = 0
      · rw [if_pos c0]
        refine ⟨fun e he => by simp at he, fun w' he => ?_⟩
        have he' : w1 = w' := Sum.inr.inj he
        subst he'
        refine ⟨t, ?_, hw, q3, q4⟩
        rw [R_132_38]
        simp (disch := first | omega | exact q_b_01 _) only [↓reduceIte, q_bk0, q_bk1, q_bk2, q_sg_b, q_b_0, q_b_n0, q_b_1, q_b_n1, q_b_T, q_b_F, q_sg_g, q_sg_sg, q_sg_xs, q_sg_id, q_gu_ne, q_gu_eq, q_g_fne, q_g_cpe, q_w_f, q_v_f, q_u_f, q_fn_f, q_cp_f, q_sg_pg, q_sg_hc, q_lt_t, q_lt_f, q_le_t, q_le_f, q_eq_t, q_eq_f, ne_eq, eq_self, Bool.false_eq_true, Bool.true_eq_false, not_true_eq_false, not_false_eq_true, true_and, and_true, false_and, and_false, true_or, or_true, false_or, or_false, if_true, if_false, Int.reduceAdd, Int.reduceMul, Int.reduceSub, Int.reduceNeg, q1, cis, q_bt c0, R_132_0, R_132_5, R_132_10, R_132_15, R_132_22, R_132_31, R_132_34, R_132_36, R_132_44, R_132_48, R_132_51, R_132_53, R_132_62, R_132_65, R_132_67, R_132_77, R_132_80, R_132_87, R_132_88, R_132_95, R_132_101, R_132_108, C_132_19, C_132_28, C_132_45, C_132_59, C_132_74, C_132_84, C_132_92, C_132_105]
      · rw [if_neg c0]
        by_cases c9 : thg T E (bs T E i') = 3 ∧ tel T E (bs T E i') = 59
        · rw [if_pos c9]
          have iC := iC_of hT hi c0
          have P : PS T E C (i' + 1) w1 (q_u t 2 5 ((i' + 1 : Nat) : Int)) := ⟨TS_u hT (by omega), by rw [q_gu_eq rfl, q_sg_id (by omega) (by omega)], by omega, CW_fr hw (fun k z hk => q_gu_ne (by omega))⟩
          have F : FW s (q_u t 2 5 ((i' + 1 : Nat) : Int)) := FW_u q3 (by omega)
          have st : EV (d + 3) 132 38 [.ref 68, .int (q_I (j))] [] (q_h L xs s O c) = EV (d + 3) 132 38 [.ref 68, .int (q_I (j + 1))] [] (q_h L xs (q_u t 2 5 ((i' + 1 : Nat) : Int)) O c) := by
            rw [R_132_38]
            simp (disch := first | omega | exact q_b_01 _) only [↓reduceIte, q_bk0, q_bk1, q_bk2, q_sg_b, q_b_0, q_b_n0, q_b_1, q_b_n1, q_b_T, q_b_F, q_sg_g, q_sg_sg, q_sg_xs, q_sg_id, q_gu_ne, q_gu_eq, q_g_fne, q_g_cpe, q_w_f, q_v_f, q_u_f, q_fn_f, q_cp_f, q_sg_pg, q_sg_hc, q_lt_t, q_lt_f, q_le_t, q_le_f, q_eq_t, q_eq_f, ne_eq, eq_self, Bool.false_eq_true, Bool.true_eq_false, not_true_eq_false, not_false_eq_true, true_and, and_true, false_and, and_false, true_or, or_true, false_or, or_false, if_true, if_false, Int.reduceAdd, Int.reduceMul, Int.reduceSub, Int.reduceNeg, q1, cis, ci9, q_bf c0, q_bt c9, R_132_0, R_132_5, R_132_10, R_132_15, R_132_22, R_132_31, R_132_34, R_132_36, R_132_44, R_132_48, R_132_51, R_132_53, R_132_62, R_132_65, R_132_67, R_132_77, R_132_80, R_132_87, R_132_88, R_132_95, R_132_101, R_132_108, C_132_19, C_132_28, C_132_45, C_132_59, C_132_74, C_132_84, C_132_92, C_132_105, cc_step hT hm iC]
          obtain ⟨n1, n2⟩ := cc_wL hr f (j + 1) (i' + 1) w1 _ (by omega) (by omega) P
          rw [st]
          refine ⟨fun e he => ?_, fun w' he => ?_⟩
          · obtain ⟨t', r1, r2, r3⟩ := n1 e he
            exact ⟨t', r1, r2, FW_trans F r3⟩
          · obtain ⟨t', r1, r2, r3, r4⟩ := n2 w' he
            exact ⟨t', r1, r2, FW_trans F r3, by rw [r4, q_gu_ne (by omega), q4]⟩
        · rw [if_neg c9]
          refine ⟨fun e he => ?_, fun w' he => by simp at he⟩
          have he' : bs T E i' = e := Sum.inl.inj he
          refine ⟨q_u t 2 6 (bs T E i'), ?_, by rw [q_gu_eq rfl, q_sg_id br.1 br.2, he'], FW_u q3 (by omega)⟩
          rw [R_132_38]
          simp (disch := first | omega | exact q_b_01 _) only [↓reduceIte, q_bk0, q_bk1, q_bk2, q_sg_b, q_b_0, q_b_n0, q_b_1, q_b_n1, q_b_T, q_b_F, q_sg_g, q_sg_sg, q_sg_xs, q_sg_id, q_gu_ne, q_gu_eq, q_g_fne, q_g_cpe, q_w_f, q_v_f, q_u_f, q_fn_f, q_cp_f, q_sg_pg, q_sg_hc, q_lt_t, q_lt_f, q_le_t, q_le_f, q_eq_t, q_eq_f, ne_eq, eq_self, Bool.false_eq_true, Bool.true_eq_false, not_true_eq_false, not_false_eq_true, true_and, and_true, false_and, and_false, true_or, or_true, false_or, or_false, if_true, if_false, Int.reduceAdd, Int.reduceMul, Int.reduceSub, Int.reduceNeg, q1, cis, ci9, q_bf c0, q_bf c9, R_132_0, R_132_5, R_132_10, R_132_15, R_132_22, R_132_31, R_132_34, R_132_36, R_132_44, R_132_48, R_132_51, R_132_53, R_132_62, R_132_65, R_132_67, R_132_77, R_132_80, R_132_87, R_132_88, R_132_95, R_132_101, R_132_108, C_132_19, C_132_28, C_132_45, C_132_59, C_132_74, C_132_84, C_132_92, C_132_105, cc_refuse hT hm hi]
theorem cc_wparse (hE : q_g s 2 1 = E) (E0 : 0 ≤ E) (E1 : E ≤ 400) (hT : ∀ j, 0 ≤ j → j < E → q_g s 3 j = T j ∧ 0 ≤ T j ∧ T j ≤ 255) : ∃ t, (∀ k z, k ≠ 2 → k ≠ 4 → k ≠ 5 → k ≠ 6 → k ≠ 68 → k ≠ 69 → k ≠ 70 → t k z = s k z) ∧ (∀ z, z ≠ 1 → z ≠ 5 → z ≠ 6 → t 2 z = s 2 z) ∧ q_g t 2 1 = 0 ∧ (∀ e, wAll T E = .inl e → EV (d + 14) 132 0 [.ref 68, .null] [] (q_h L xs s O c) = some (.inl (some (.int (q_I (0)))), q_h L xs (t) O c) ∧ q_g t 2 6 = e) ∧ ∀ w, wAll T E = .inr w → EV (d + 14) 132 0 [.ref 68, .null] [] (q_h L xs s O c) = some (.inl (some (.int (q_I (1)))), q_h L xs (t) O c) ∧ q_g t 2 6 = -1 ∧ CW w t := by
  have hr : ∀ j, 0 ≤ j → j < E → 0 ≤ T j ∧ T j ≤ 255 := fun j h1 h2 => (hT j h1 h2).2
  obtain ⟨C, t, e1, e2, e3, e4, e5, e6⟩ := cc_scan (d := d + 2) (L := L) (xs := xs) (O := O) (c := c) (s := q_u (q_u (q_u s 68 3 0) 68 4 (-1)) 68 5 (-1)) (T := T) (E := E) (by rw [q_gu_ne (by omega), q_gu_ne (by omega), q_gu_ne (by omega), hE]) E0 E1 (fun j h1 h2 => by rw [q_gu_ne (by omega), q_gu_ne (by omega), q_gu_ne (by omega)]; exact hT j h1 h2)
  have hW : CW w0 t := by
    have g : ∀ z, q_g t 68 z = q_g (q_u (q_u (q_u s 68 3 0) 68 4 (-1)) 68 5 (-1)) 68 z := fun z => by
      show (t 68 z).toInt = _
      rw [e6 68 z (by decide) (by decide) (by decide) (by omega)]
      rfl
    refine ⟨by rw [g, q_gu_ne (by omega), q_gu_ne (by omega), q_gu_eq rfl]; rfl, by decide, by decide, fun k k0 k1 => ?_, by rw [g, q_gu_ne (by omega), q_gu_eq rfl]; rfl, by rw [g, q_gu_eq rfl]; rfl⟩
    have : k < 0 := k1
    omega
  have P : PS T E C 0 w0 t := ⟨e2, e4, Nat.zero_le _, hW⟩
  have cis := cc_is (d := d + 13) (L := L) (xs := xs) (O := O) (c := c) (th := 0) (to := -1) (i := 0) e2 e4 (Nat.zero_le _) (by omega) (by omega) (by omega) (by omega)
  simp only [thg_t0] at cis
  have fin : ∀ t', FW t t' → (∀ k z, k ≠ 2 → k ≠ 4 → k ≠ 5 → k ≠ 6 → k ≠ 68 → k ≠ 69 → k ≠ 70 → t' k z = s k z) ∧ (∀ z, z ≠ 1 → z ≠ 5 → z ≠ 6 → t' 2 z = s 2 z) ∧ q_g t' 2 1 = 0 := fun t' F => by
    refine ⟨fun k z a1 a2 a3 a4 a5 a6 a7 => ?_, fun z a1 a2 a3 => ?_, ?_⟩
    · rw [F k z a5 a6 a7 (by omega), e6 k z a2 a3 a4 (by omega), q_u_n (by omega), q_u_n (by omega), q_u_n (by omega)]
    · rw [F 2 z (by decide) (by decide) (by decide) (by omega), e6 2 z (by decide) (by decide) (by decide) (by omega), q_u_n (by omega), q_u_n (by omega), q_u_n (by omega)]
    · show (t' 2 1).toInt = 0
      rw [F 2 1 (by decide) (by decide) (by decide) (by omega)]
      exact e3
  by_cases c0 : thg T E (bs T E 0) = 0
  · obtain ⟨f1, f2, f3⟩ := fin t (fun _ _ _ _ _ _ => rfl)
    refine ⟨t, f1, f2, f3, fun e he => ?_, fun w hw => ?_⟩
    · unfold wAll at he
      rw [if_pos c0] at he
      simp at he
    · unfold wAll at hw
      rw [if_pos c0] at hw
      have he' : w0 = w := Sum.inr.inj hw
      subst he'
      refine ⟨?_, e5, hW⟩
      simp (disch := first | omega | exact q_b_01 _) only [↓reduceIte, q_bk0, q_bk1, q_bk2, q_sg_b, q_b_0, q_b_n0, q_b_1, q_b_n1, q_b_T, q_b_F, q_sg_g, q_sg_sg, q_sg_xs, q_sg_id, q_gu_ne, q_gu_eq, q_g_fne, q_g_cpe, q_w_f, q_v_f, q_u_f, q_fn_f, q_cp_f, q_sg_pg, q_sg_hc, q_lt_t, q_lt_f, q_le_t, q_le_f, q_eq_t, q_eq_f, ne_eq, eq_self, Bool.false_eq_true, Bool.true_eq_false, not_true_eq_false, not_false_eq_true, true_and, and_true, false_and, and_false, true_or, or_true, false_or, or_false, if_true, if_false, Int.reduceAdd, Int.reduceMul, Int.reduceSub, Int.reduceNeg, e1, cis, q_bt c0, R_132_0, R_132_5, R_132_10, R_132_15, R_132_22, R_132_31, R_132_34, R_132_36, R_132_44, R_132_48, R_132_51, R_132_53, R_132_62, R_132_65, R_132_67, R_132_77, R_132_80, R_132_87, R_132_88, R_132_95, R_132_101, R_132_108, C_132_19, C_132_28, C_132_45, C_132_59, C_132_74, C_132_84, C_132_92, C_132_105]
  · have st : EV (d + 14) 132 0 [.ref 68, .null] [] (q_h L xs s O c) = EV (d + 14) 132 38 [.ref 68, .int (q_I (0))] [] (q_h L xs (t) O c) := by
      simp (disch := first | omega | exact q_b_01 _) only [↓reduceIte, q_bk0, q_bk1, q_bk2, q_sg_b, q_b_0, q_b_n0, q_b_1, q_b_n1, q_b_T, q_b_F, q_sg_g, q_sg_sg, q_sg_xs, q_sg_id, q_gu_ne, q_gu_eq, q_g_fne, q_g_cpe, q_w_f, q_v_f, q_u_f, q_fn_f, q_cp_f, q_sg_pg, q_sg_hc, q_lt_t, q_lt_f, q_le_t, q_le_f, q_eq_t, q_eq_f, ne_eq, eq_self, Bool.false_eq_true, Bool.true_eq_false, not_true_eq_false, not_false_eq_true, true_and, and_true, false_and, and_false, true_or, or_true, false_or, or_false, if_true, if_false, Int.reduceAdd, Int.reduceMul, Int.reduceSub, Int.reduceNeg, e1, cis, q_bf c0, R_132_0, R_132_5, R_132_10, R_132_15, R_132_22, R_132_31, R_132_34, R_132_36, R_132_44, R_132_48, R_132_51, R_132_53, R_132_62, R_132_65, R_132_67, R_132_77, R_132_80, R_132_87, R_132_88, R_132_95, R_132_101, R_132_108, C_132_19, C_132_28, C_132_45, C_132_59, C_132_74, C_132_84, C_132_92, C_132_105]
    obtain ⟨n1, n2⟩ := cc_wL (d := d + 11) (L := L) (xs := xs) (O := O) (c := c) hr 14 0 0 w0 t (by omega) (by omega) P
    have ea : wAll T E = wLines T E 14 0 w0 := if_neg c0
    cases hc : wLines T E 14 0 w0 with
    | inl e =>
      obtain ⟨t', r1, r2, r3⟩ := n1 e hc
      obtain ⟨f1, f2, f3⟩ := fin t' r3
      refine ⟨t', f1, f2, f3, fun e' he => ?_, fun w hw => ?_⟩
      · rw [ea, hc] at he
        have he' : e = e' := Sum.inl.inj he
        rw [st]
        exact ⟨r1, by rw [r2, he']⟩
      · rw [ea, hc] at hw
        simp at hw
    | inr w1 =>
      obtain ⟨t', r1, r2, r3, r4⟩ := n2 w1 hc
      obtain ⟨f1, f2, f3⟩ := fin t' r3
      refine ⟨t', f1, f2, f3, fun e' he => ?_, fun w hw => ?_⟩
      · rw [ea, hc] at he
        simp at he
      · rw [ea, hc] at hw
        have he' : w1 = w := Sum.inr.inj hw
        subst he'
        rw [st]
        exact ⟨r1, by rw [r4, e5], r2⟩
end CW3
