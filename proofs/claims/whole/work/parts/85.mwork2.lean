/-! THE REFERENCE: a text of work -/
section MW2
variable {d L : Nat} {xs : Nat → Int32} {s t u : Nat → Int → Int32} {O : Nat → Int64} {c : Bool × Nat × Nat} {T : Int → Int} {E b e : Int} {i : Nat} {r0 k0 : Int}
theorem mm_chL (H : TX T E) (va : Bool) : ∀ (f : Nat) (i : Nat) (w : Int × (Int → Int) × (Int → Int) × Int × Int) (s : Nat → Int → Int32) (y3 y4 y5 : Value), 13 ≤ w.1 + f → MS T E (bs T E i) s → MW r0 k0 w s → (∀ e, wCh T E va f i w = .inl e → ∃ t, EV (d + 4) 236 2 [.ref 285, .int (q_I ((if va = true then 1 else 0))), .int (q_I (1)), y3, y4, y5] [] (q_h L xs s O c) = some (.inl none, q_h L xs (t) O c) ∧ MF T E e t ∧ FC s t) ∧ ∀ i' w', wCh T E va f i w = .inr (i', w') → ∃ t, EV (d + 4) 236 2 [.ref 285, .int (q_I ((if va = true then 1 else 0))), .int (q_I (1)), y3, y4, y5] [] (q_h L xs s O c) = some (.inl none, q_h L xs (t) O c) ∧ MS T E (bs T E i') t ∧ MW r0 k0 w' t ∧ FC s t
  | 0, i, w, s, y3, y4, y5, hj, hs, hw => by
    have := hw.2.2.1
    omega
  | f + 1, i, w, s, y3, y4, y5, hj, hs, hw => by
    have hw1 := hw.1
    have hw2 := hw.2.1
    have hw3 := hw.2.2.1
    generalize hb : bs T E i = b at *
    obtain ⟨b0, b1, b2⟩ := MS_b H hs
    have s1 := MS_cur H hs
    have hf1 := s1.2.1
    have hh := ms_here (d := d + 1) (L := L) (xs := xs) (O := O) (c := c) H hs
    have g1 : q_g (q_u s 285 11 b) 285 19 = w.1 := by rw [q_gu_ne (by omega), hw1]
    have fr1 : ∀ k z, ¬ (k = 285 ∧ (z = 11 ∨ z = 12)) → q_u s 285 11 b k z = s k z := fun k z a => q_u_n (by omega)
    have en : nxt T E b = bs T E (i + 1) := by rw [← hb]; rfl
    unfold wCh
    rw [hb]
    by_cases c12 : w.1 < 12
    · have st : ∀ v u, EV (d + 3) 234 0 [.ref 285, .int (q_I (0)), .int (q_I (99)), .null, .null] [] (q_h L xs (q_u s 285 11 b) O c) = some (.inl (some (.int (q_I (v)))), q_h L xs (u) O c) → EV (d + 4) 236 2 [.ref 285, .int (q_I ((if va = true then 1 else 0))), .int (q_I (1)), y3, y4, y5] [] (q_h L xs s O c) = EV (d + 4) 236 32 [.ref 285, .int (q_I ((if va = true then 1 else 0))), .int (q_I (1)), .int (q_I (b)), y4, y5] [.int (q_I (v))] (q_h L xs (u) O c) := fun v u hu => by
        simp (disch := first | omega | exact q_b_01 _) only [↓reduceIte, q_bk0, q_bk1, q_bk2, q_sg_b, q_b_0, q_b_n0, q_b_1, q_b_n1, q_b_T, q_b_F, q_sg_g, q_sg_sg, q_sg_xs, q_sg_id, q_gu_ne, q_gu_eq, q_g_fne, q_g_cpe, q_w_f, q_v_f, q_u_f, q_fn_f, q_cp_f, q_sg_pg, q_sg_hc, q_lt_t, q_lt_f, q_le_t, q_le_f, q_eq_t, q_eq_f, ne_eq, eq_self, Bool.false_eq_true, Bool.true_eq_false, not_true_eq_false, not_false_eq_true, true_and, and_true, false_and, and_false, true_or, or_true, false_or, or_false, if_true, if_false, Int.reduceAdd, Int.reduceMul, Int.reduceSub, Int.reduceNeg, hh, g1, hu, R_236_0, R_236_2, R_236_6, R_236_10, R_236_20, R_236_25, R_236_38, R_236_45, R_236_48, R_236_50, R_236_60, R_236_71, R_236_82, R_236_92, R_236_96, R_236_100, C_236_7, C_236_22, C_236_29, C_236_42, C_236_93]
      obtain ⟨f1, f2⟩ := ms_figures (d := d) (L := L) (xs := xs) (O := O) (c := c) (lo := 0) (hi := 99) H s1 (by omega) (by omega) (by omega) (by omega)
      have bad : ∀ v u e, MF T E e u → ∃ t, EV (d + 4) 236 32 [.ref 285, .int (q_I ((if va = true then 1 else 0))), .int (q_I (1)), .int (q_I (b)), y4, y5] [.int (q_I (v))] (q_h L xs (u) O c) = some (.inl none, q_h L xs (t) O c) ∧ MF T E e t ∧ FC u t := fun v u e hu => by
        have hne := MF_ne hu
        cases va with
        | true =>
          obtain ⟨t, q1, q2⟩ := mm_chF (d := d + 1) (L := L) (xs := xs) (O := O) (c := c) (x1 := 1) (x2 := 1) (x3 := b) (x4 := v) (x5 := 0) H hu
          refine ⟨t, ?_, q2⟩
          simp (disch := first | omega | exact q_b_01 _) only [↓reduceIte, q_bk0, q_bk1, q_bk2, q_sg_b, q_b_0, q_b_n0, q_b_1, q_b_n1, q_b_T, q_b_F, q_sg_g, q_sg_sg, q_sg_xs, q_sg_id, q_gu_ne, q_gu_eq, q_g_fne, q_g_cpe, q_w_f, q_v_f, q_u_f, q_fn_f, q_cp_f, q_sg_pg, q_sg_hc, q_lt_t, q_lt_f, q_le_t, q_le_f, q_eq_t, q_eq_f, ne_eq, eq_self, Bool.false_eq_true, Bool.true_eq_false, not_true_eq_false, not_false_eq_true, true_and, and_true, false_and, and_false, true_or, or_true, false_or, or_false, if_true, if_false, Int.reduceAdd, Int.reduceMul, Int.reduceSub, Int.reduceNeg, hne, R_236_0, R_236_6, R_236_10, R_236_20, R_236_25, R_236_32, R_236_38, R_236_45, R_236_48, R_236_50, R_236_60, R_236_71, R_236_82, R_236_96, R_236_100, C_236_7, C_236_22, C_236_29, C_236_42, C_236_93, mm_figuresF hne]
          exact q1
        | false =>
          obtain ⟨t, q1, q2⟩ := mm_chF (d := d + 1) (L := L) (xs := xs) (O := O) (c := c) (x1 := 0) (x2 := 1) (x3 := b) (x4 := v) (x5 := 100) H hu
          refine ⟨t, ?_, q2⟩
          simp (disch := first | omega | exact q_b_01 _) only [↓reduceIte, q_bk0, q_bk1, q_bk2, q_sg_b, q_b_0, q_b_n0, q_b_1, q_b_n1, q_b_T, q_b_F, q_sg_g, q_sg_sg, q_sg_xs, q_sg_id, q_gu_ne, q_gu_eq, q_g_fne, q_g_cpe, q_w_f, q_v_f, q_u_f, q_fn_f, q_cp_f, q_sg_pg, q_sg_hc, q_lt_t, q_lt_f, q_le_t, q_le_f, q_eq_t, q_eq_f, ne_eq, eq_self, Bool.false_eq_true, Bool.true_eq_false, not_true_eq_false, not_false_eq_true, true_and, and_true, false_and, and_false, true_or, or_true, false_or, or_false, if_true, if_false, Int.reduceAdd, Int.reduceMul, Int.reduceSub, Int.reduceNeg, hne, R_236_0, R_236_6, R_236_10, R_236_20, R_236_25, R_236_32, R_236_38, R_236_45, R_236_48, R_236_50, R_236_60, R_236_71, R_236_82, R_236_96, R_236_100, C_236_7, C_236_22, C_236_29, C_236_42, C_236_93]
          exact q1
      by_cases cB : thg T E b = 2 ∧ 0 ≤ tel T E b ∧ tel T E b ≤ 99
      · rw [if_pos ⟨c12, cB⟩, st _ _ (f1 cB), q_uu_eq]
        have bE := thg_lt (T := T) (E := E) (b := b) (by omega)
        have s2 := MS_nxt H hs bE
        have fr2 : ∀ k z, ¬ (k = 285 ∧ (z = 11 ∨ z = 12)) → q_u s 285 11 (tend T E b) k z = s k z := fun k z a => q_u_n (by omega)
        rw [en] at s2
        cases va with
        | false =>
          rw [if_neg (by decide)]
          obtain ⟨u, p1, p2, p3, p4⟩ := mm_chG (d := d + 1) (L := L) (xs := xs) (O := O) (c := c) (va := false) (x3 := b) (y5 := y5) (k := tel T E b) (v := 100) H s2 hw c12 (by omega) (by omega) fr2
          have st2 : EV (d + 4) 236 32 [.ref 285, .int (q_I ((if false = true then 1 else 0))), .int (q_I (1)), .int (q_I (b)), y4, y5] [.int (q_I (tel T E b))] (q_h L xs (q_u s 285 11 (tend T E b)) O c) = EV (d + 4) 236 2 [.ref 285, .int (q_I ((if false = true then 1 else 0))), .int (q_I (q_b (thg T E (bs T E (i + 1)) = 2))), .int (q_I (b)), .int (q_I (tel T E b)), .int (q_I (100))] [] (q_h L xs (u) O c) := by
            rw [← p1]
            simp (disch := first | omega | exact q_b_01 _) only [↓reduceIte, q_bk0, q_bk1, q_bk2, q_sg_b, q_b_0, q_b_n0, q_b_1, q_b_n1, q_b_T, q_b_F, q_sg_g, q_sg_sg, q_sg_xs, q_sg_id, q_gu_ne, q_gu_eq, q_g_fne, q_g_cpe, q_w_f, q_v_f, q_u_f, q_fn_f, q_cp_f, q_sg_pg, q_sg_hc, q_lt_t, q_lt_f, q_le_t, q_le_f, q_eq_t, q_eq_f, ne_eq, eq_self, Bool.false_eq_true, Bool.true_eq_false, not_true_eq_false, not_false_eq_true, true_and, and_true, false_and, and_false, true_or, or_true, false_or, or_false, if_true, if_false, Int.reduceAdd, Int.reduceMul, Int.reduceSub, Int.reduceNeg, R_236_0, R_236_6, R_236_10, R_236_20, R_236_25, R_236_32, R_236_38, R_236_45, R_236_48, R_236_60, R_236_71, R_236_82, R_236_92, R_236_96, R_236_100, C_236_7, C_236_22, C_236_29, C_236_42, C_236_93]
          rw [st2]
          by_cases th : thg T E (bs T E (i + 1)) = 2
          · rw [if_pos th, q_bt th]
            obtain ⟨k1, k2⟩ := mm_chL H false f (i + 1) (wpu w (tel T E b) 100) u (.int (q_I b)) (.int (q_I (tel T E b))) (.int (q_I 100)) (by show 13 ≤ w.1 + 1 + f; omega) p2 p3
            refine ⟨fun e he => ?_, fun i' w' he => ?_⟩
            · obtain ⟨t, q1, q2, q3⟩ := k1 e he
              exact ⟨t, q1, q2, FC_trans p4 q3⟩
            · obtain ⟨t, q1, q2, q3, q4⟩ := k2 i' w' he
              exact ⟨t, q1, q2, q3, FC_trans p4 q4⟩
          · rw [if_neg th, q_bf th]
            refine ⟨fun e he => by simp at he, fun i' w' he => ?_⟩
            have he' := Sum.inr.inj he
            have ei : i + 1 = i' := congrArg Prod.fst he'
            have ew : wpu w (tel T E b) 100 = w' := congrArg Prod.snd he'
            subst ei
            subst ew
            refine ⟨u, ?_, p2, p3, p4⟩
            simp (disch := first | omega | exact q_b_01 _) only [↓reduceIte, q_bk0, q_bk1, q_bk2, q_sg_b, q_b_0, q_b_n0, q_b_1, q_b_n1, q_b_T, q_b_F, q_sg_g, q_sg_sg, q_sg_xs, q_sg_id, q_gu_ne, q_gu_eq, q_g_fne, q_g_cpe, q_w_f, q_v_f, q_u_f, q_fn_f, q_cp_f, q_sg_pg, q_sg_hc, q_lt_t, q_lt_f, q_le_t, q_le_f, q_eq_t, q_eq_f, ne_eq, eq_self, Bool.false_eq_true, Bool.true_eq_false, not_true_eq_false, not_false_eq_true, true_and, and_true, false_and, and_false, true_or, or_true, false_or, or_false, if_true, if_false, Int.reduceAdd, Int.reduceMul, Int.reduceSub, Int.reduceNeg, R_236_0, R_236_2, R_236_6, R_236_10, R_236_20, R_236_25, R_236_32, R_236_38, R_236_45, R_236_48, R_236_50, R_236_60, R_236_71, R_236_82, R_236_92, R_236_96, R_236_100, C_236_7, C_236_22, C_236_29, C_236_42, C_236_93]
        | true =>
          rw [if_pos rfl]
          obtain ⟨v1, v2⟩ := ms_figures (d := d) (L := L) (xs := xs) (O := O) (c := c) (lo := 0) (hi := 99) H s2 (by omega) (by omega) (by omega) (by omega)
          by_cases cV : thg T E (bs T E (i + 1)) = 2 ∧ 0 ≤ tel T E (bs T E (i + 1)) ∧ tel T E (bs T E (i + 1)) ≤ 99
          · rw [if_pos cV]
            have v1' := v1 cV
            rw [q_uu_eq] at v1'
            have bE2 := thg_lt (T := T) (E := E) (b := bs T E (i + 1)) (by omega)
            have s3 := MS_nxt H s2 bE2
            rw [q_uu_eq] at s3
            have fr3 : ∀ k z, ¬ (k = 285 ∧ (z = 11 ∨ z = 12)) → q_u s 285 11 (tend T E (bs T E (i + 1))) k z = s k z := fun k z a => q_u_n (by omega)
            have en2 : nxt T E (bs T E (i + 1)) = bs T E (i + 2) := rfl
            rw [en2] at s3
            obtain ⟨u, p1, p2, p3, p4⟩ := mm_chG (d := d + 1) (L := L) (xs := xs) (O := O) (c := c) (va := true) (x3 := b) (y5 := y5) (k := tel T E b) (v := tel T E (bs T E (i + 1))) H s3 hw c12 (by omega) (by omega) fr3
            have st2 : EV (d + 4) 236 32 [.ref 285, .int (q_I ((if true = true then 1 else 0))), .int (q_I (1)), .int (q_I (b)), y4, y5] [.int (q_I (tel T E b))] (q_h L xs (q_u s 285 11 (tend T E b)) O c) = EV (d + 4) 236 2 [.ref 285, .int (q_I ((if true = true then 1 else 0))), .int (q_I (q_b (thg T E (bs T E (i + 2)) = 2))), .int (q_I (b)), .int (q_I (tel T E b)), .int (q_I (tel T E (bs T E (i + 1))))] [] (q_h L xs (u) O c) := by
              rw [← p1]
              simp (disch := first | omega | exact q_b_01 _) only [↓reduceIte, q_bk0, q_bk1, q_bk2, q_sg_b, q_b_0, q_b_n0, q_b_1, q_b_n1, q_b_T, q_b_F, q_sg_g, q_sg_sg, q_sg_xs, q_sg_id, q_gu_ne, q_gu_eq, q_g_fne, q_g_cpe, q_w_f, q_v_f, q_u_f, q_fn_f, q_cp_f, q_sg_pg, q_sg_hc, q_lt_t, q_lt_f, q_le_t, q_le_f, q_eq_t, q_eq_f, ne_eq, eq_self, Bool.false_eq_true, Bool.true_eq_false, not_true_eq_false, not_false_eq_true, true_and, and_true, false_and, and_false, true_or, or_true, false_or, or_false, if_true, if_false, Int.reduceAdd, Int.reduceMul, Int.reduceSub, Int.reduceNeg, v1', R_236_0, R_236_6, R_236_10, R_236_20, R_236_25, R_236_32, R_236_38, R_236_45, R_236_48, R_236_60, R_236_71, R_236_82, R_236_92, R_236_96, R_236_100, C_236_7, C_236_22, C_236_29, C_236_42, C_236_93]
            rw [st2]
            by_cases th : thg T E (bs T E (i + 2)) = 2
            · rw [if_pos th, q_bt th]
              obtain ⟨k1, k2⟩ := mm_chL H true f (i + 2) (wpu w (tel T E b) (tel T E (bs T E (i + 1)))) u (.int (q_I b)) (.int (q_I (tel T E b))) (.int (q_I (tel T E (bs T E (i + 1))))) (by show 13 ≤ w.1 + 1 + f; omega) p2 p3
              refine ⟨fun e he => ?_, fun i' w' he => ?_⟩
              · obtain ⟨t, q1, q2, q3⟩ := k1 e he
                exact ⟨t, q1, q2, FC_trans p4 q3⟩
              · obtain ⟨t, q1, q2, q3, q4⟩ := k2 i' w' he
                exact ⟨t, q1, q2, q3, FC_trans p4 q4⟩
            · rw [if_neg th, q_bf th]
              refine ⟨fun e he => by simp at he, fun i' w' he => ?_⟩
              have he' := Sum.inr.inj he
              have ei : i + 2 = i' := congrArg Prod.fst he'
              have ew : wpu w (tel T E b) (tel T E (bs T E (i + 1))) = w' := congrArg Prod.snd he'
              subst ei
              subst ew
              refine ⟨u, ?_, p2, p3, p4⟩
              simp (disch := first | omega | exact q_b_01 _) only [↓reduceIte, q_bk0, q_bk1, q_bk2, q_sg_b, q_b_0, q_b_n0, q_b_1, q_b_n1, q_b_T, q_b_F, q_sg_g, q_sg_sg, q_sg_xs, q_sg_id, q_gu_ne, q_gu_eq, q_g_fne, q_g_cpe, q_w_f, q_v_f, q_u_f, q_fn_f, q_cp_f, q_sg_pg, q_sg_hc, q_lt_t, q_lt_f, q_le_t, q_le_f, q_eq_t, q_eq_f, ne_eq, eq_self, Bool.false_eq_true, Bool.true_eq_false, not_true_eq_false, not_false_eq_true, true_and, and_true, false_and, and_false, true_or, or_true, false_or, or_false, if_true, if_false, Int.reduceAdd, Int.reduceMul, Int.reduceSub, Int.reduceNeg, R_236_0, R_236_2, R_236_6, R_236_10, R_236_20, R_236_25, R_236_32, R_236_38, R_236_45, R_236_48, R_236_50, R_236_60, R_236_71, R_236_82, R_236_92, R_236_96, R_236_100, C_236_7, C_236_22, C_236_29, C_236_42, C_236_93]
          · rw [if_neg cV]
            refine ⟨fun e he => ?_, fun i' w' he => by simp at he⟩
            have he' : bs T E (i + 1) = e := Sum.inl.inj he
            obtain ⟨v, a, q1, q2, q3⟩ := v2 cV
            rw [q_uu_eq] at q1
            have F := MF_of (a := a) H s2 q2 q3
            rw [q_uu_eq] at F
            have hne := MF_ne F
            have bn := MS_b H s2
            obtain ⟨t, r1, r2, r3⟩ := mm_chF (d := d + 1) (L := L) (xs := xs) (O := O) (c := c) (x1 := 1) (x2 := 1) (x3 := b) (x4 := tel T E b) (x5 := v) H F
            refine ⟨t, ?_, by rw [← he']; exact r2, FC_trans (FC_u (FC_u FC_refl (by omega)) (by omega)) r3⟩
            simp (disch := first | omega | exact q_b_01 _) only [↓reduceIte, q_bk0, q_bk1, q_bk2, q_sg_b, q_b_0, q_b_n0, q_b_1, q_b_n1, q_b_T, q_b_F, q_sg_g, q_sg_sg, q_sg_xs, q_sg_id, q_gu_ne, q_gu_eq, q_g_fne, q_g_cpe, q_w_f, q_v_f, q_u_f, q_fn_f, q_cp_f, q_sg_pg, q_sg_hc, q_lt_t, q_lt_f, q_le_t, q_le_f, q_eq_t, q_eq_f, ne_eq, eq_self, Bool.false_eq_true, Bool.true_eq_false, not_true_eq_false, not_false_eq_true, true_and, and_true, false_and, and_false, true_or, or_true, false_or, or_false, if_true, if_false, Int.reduceAdd, Int.reduceMul, Int.reduceSub, Int.reduceNeg, q1, hne, R_236_0, R_236_6, R_236_10, R_236_20, R_236_25, R_236_32, R_236_38, R_236_45, R_236_48, R_236_50, R_236_60, R_236_71, R_236_82, R_236_96, R_236_100, C_236_7, C_236_22, C_236_29, C_236_42, C_236_93]
            exact r1
      · rw [if_neg (fun x => cB x.2)]
        refine ⟨fun e he => ?_, fun i' w' he => by simp at he⟩
        have he' : b = e := Sum.inl.inj he
        obtain ⟨v, a, q1, q2, q3⟩ := f2 cB
        have F := MF_of (a := a) H s1 q2 q3
        obtain ⟨t, r1, r2, r3⟩ := bad v _ b F
        rw [st _ _ q1]
        exact ⟨t, r1, by rw [← he']; exact r2, FC_trans (FC_u (FC_u (FC_u FC_refl (by omega)) (by omega)) (by omega)) r3⟩
    · rw [if_neg (fun x => c12 x.1)]
      refine ⟨fun e he => ?_, fun i' w' he => by simp at he⟩
      have he' : b = e := Sum.inl.inj he
      have F : MF T E b (q_u (q_u s 285 11 b) 285 12 b) := MF_of H hs b0 b1
      have hne := MF_ne F
      have w12 : w.1 = 12 := by omega
      have mw := mm_wrong (d := d + 3) (L := L) (xs := xs) (s := q_u s 285 11 b) (O := O) (c := c) (w := b)
      rw [if_pos hf1] at mw
      cases va with
      | true =>
        obtain ⟨t, r1, r2, r3⟩ := mm_chF (d := d + 1) (L := L) (xs := xs) (O := O) (c := c) (x1 := 1) (x2 := 1) (x3 := b) (x4 := 0) (x5 := 0) H F
        refine ⟨t, ?_, by rw [← he']; exact r2, FC_trans (FC_u (FC_u FC_refl (by omega)) (by omega)) r3⟩
        simp (disch := first | omega | exact q_b_01 _) only [↓reduceIte, q_bk0, q_bk1, q_bk2, q_sg_b, q_b_0, q_b_n0, q_b_1, q_b_n1, q_b_T, q_b_F, q_sg_g, q_sg_sg, q_sg_xs, q_sg_id, q_gu_ne, q_gu_eq, q_g_fne, q_g_cpe, q_w_f, q_v_f, q_u_f, q_fn_f, q_cp_f, q_sg_pg, q_sg_hc, q_lt_t, q_lt_f, q_le_t, q_le_f, q_eq_t, q_eq_f, ne_eq, eq_self, Bool.false_eq_true, Bool.true_eq_false, not_true_eq_false, not_false_eq_true, true_and, and_true, false_and, and_false, true_or, or_true, false_or, or_false, if_true, if_false, Int.reduceAdd, Int.reduceMul, Int.reduceSub, Int.reduceNeg, hh, g1, w12, mw, hne, R_236_0, R_236_2, R_236_6, R_236_10, R_236_20, R_236_25, R_236_32, R_236_38, R_236_45, R_236_48, R_236_50, R_236_60, R_236_71, R_236_82, R_236_96, R_236_100, C_236_7, C_236_22, C_236_29, C_236_42, C_236_93, mm_figuresF hne]
        exact r1
      | false =>
        obtain ⟨t, r1, r2, r3⟩ := mm_chF (d := d + 1) (L := L) (xs := xs) (O := O) (c := c) (x1 := 0) (x2 := 1) (x3 := b) (x4 := 0) (x5 := 100) H F
        refine ⟨t, ?_, by rw [← he']; exact r2, FC_trans (FC_u (FC_u FC_refl (by omega)) (by omega)) r3⟩
        simp (disch := first | omega | exact q_b_01 _) only [↓reduceIte, q_bk0, q_bk1, q_bk2, q_sg_b, q_b_0, q_b_n0, q_b_1, q_b_n1, q_b_T, q_b_F, q_sg_g, q_sg_sg, q_sg_xs, q_sg_id, q_gu_ne, q_gu_eq, q_g_fne, q_g_cpe, q_w_f, q_v_f, q_u_f, q_fn_f, q_cp_f, q_sg_pg, q_sg_hc, q_lt_t, q_lt_f, q_le_t, q_le_f, q_eq_t, q_eq_f, ne_eq, eq_self, Bool.false_eq_true, Bool.true_eq_false, not_true_eq_false, not_false_eq_true, true_and, and_true, false_and, and_false, true_or, or_true, false_or, or_false, if_true, if_false, Int.reduceAdd, Int.reduceMul, Int.reduceSub, Int.reduceNeg, hh, g1, w12, mw, hne, R_236_0, R_236_2, R_236_6, R_236_10, R_236_20, R_236_25, R_236_32, R_236_38, R_236_45, R_236_48, R_236_50, R_236_60, R_236_71, R_236_82, R_236_96, R_236_100, C_236_7, C_236_22, C_236_29, C_236_42, C_236_93, mm_figuresF hne]
        exact r1
end MW2
