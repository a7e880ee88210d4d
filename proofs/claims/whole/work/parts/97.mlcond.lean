/-! THE REFERENCE: conditions of a law -/
section MLC
variable {L : Nat} {xs : Nat → Int32} {O : Nat → Int64} {c : Bool × Nat × Nat} {T : Int → Int} {E : Int} {F : Int → Int}
def MAt (T : Int → Int) (E : Int) (F : Int → Int) (L : Nat) (xs : Nat → Int32) (O : Nat → Int64) (c : Bool × Nat × Nat) (a : Nat → PR) (A r D : Nat) : Prop := ∀ (i : Nat) (s : Nat → Int → Int32), 1 ≤ bs T E i → Fc F s → MS T E (bs T E i) s → q_g s 285 13 = 6 - (r : Int) → MSp T E F r A i B01 s (a i) (fun v t => EV (D) 247 0 [.ref 285, .null, .null, .null] [] (q_h L xs s O c) = some (.inl (some (.int (q_I (v)))), q_h L xs (t) O c))
/-- a chain of and, behind an atom -/
theorem mm_evL {a : Nat → PR} {A r D : Nat} (H : TX T E) (hA : MAt T E F L xs O c a A r (D + 9)) : ∀ (f i0 i : Nat) (l : List Int) (v : Int) (y : Value) (s : Nat → Int → Int32), E < bs T E i + f → Fc F s → q_g s 285 13 = 6 - (r : Int) → MS T E (bs T E i) s → B01 v → Ge F l v (A + 1) → 1 ≤ l.length → (l.length : Int) + bs T E i0 ≤ bs T E i → 1 ≤ bs T E i0 → MSp T E F r (A + 1) i0 B01 s (pE T E a f i l) (fun w t => EV (D + 10) 248 5 [.ref 285, .int (q_I (v)), y] [] (q_h L xs s O c) = some (.inl (some (.int (q_I (w)))), q_h L xs (t) O c))
  | 0, i0, i, l, v, y, s, hn, hf, hd, hs, hv, hg, h1, hl, b0 => by
    have := MS_le H hs
    omega
  | f + 1, i0, i, l, v, y, s, hn, hf, hd, hs, hv, hg, h1, hl, b0 => by
    have s1 := MS_cur H hs
    have hb := MS_b H hs
    have hf0 := hs.2.1
    have ha := hs_and (d := D) (L := L) (xs := xs) (O := O) (c := c) H hs
    unfold pE
    by_cases c1 : tk T E i 1 7
    · rw [if_pos c1]
      rw [if_pos c1] at ha
      have bE := thg_lt (T := T) (E := E) (b := bs T E i) (by have := c1.1; omega)
      have ng := nxt_gt (T := T) bE
      have en : bs T E (i + 1) = nxt T E (bs T E i) := rfl
      have m := MS_nxt H hs bE
      rw [← en] at m
      have F1 : FM s (q_u s 285 11 (tend T E (bs T E i))) := FM_u FM_refl (by omega)
      have k := hA (i + 1) _ (by omega) (Fc_m hf F1) m (by rw [FM_g F1 (by omega)]; exact hd)
      have e1 : EV (D + 10) 248 5 [.ref 285, .int (q_I (v)), y] [] (q_h L xs s O c) = EV (D + 10) 248 23 [.ref 285, .int (q_I (v)), y] [.ref 285] (q_h L xs (q_u s 285 11 (tend T E (bs T E i))) O c) := by
        rw [R_248_5]
        simp (disch := first | omega | exact q_b_01 _) only [↓reduceIte, q_bk0, q_bk1, q_bk2, q_sg_b, q_b_0, q_b_n0, q_b_1, q_b_n1, q_b_T, q_b_F, q_sg_g, q_sg_sg, q_sg_xs, q_sg_id, q_gu_ne, q_gu_eq, q_g_fne, q_g_cpe, q_w_f, q_v_f, q_u_f, q_fn_f, q_cp_f, q_sg_pg, q_sg_hc, q_lt_t, q_lt_f, q_le_t, q_le_f, q_eq_t, q_eq_f, ne_eq, eq_self, Bool.false_eq_true, Bool.true_eq_false, not_true_eq_false, not_false_eq_true, true_and, and_true, false_and, and_false, true_or, or_true, false_or, or_false, if_true, if_false, Int.reduceAdd, Int.reduceMul, Int.reduceSub, Int.reduceNeg, hf0, ha, q_bt c1, R_248_0, R_248_4, R_248_5, R_248_13, R_248_19, R_248_22, R_248_26, R_248_31, R_248_35, R_248_39, R_248_40, R_248_44, C_248_1, C_248_16]
      cases hp : a (i + 1) with
      | inl e =>
        rw [hp] at k
        obtain ⟨t, w, a1, aw, a2, a3⟩ := k
        have hne := MG_ne a2
        refine ⟨t, q_b (v = 1 ∧ w = 1), ?_, B01_b _, a2, FM_trans F1 a3⟩
        rw [e1]
        have a1' : EV (D + 9) 247 0 [.ref 285, .null, .null, .null] [] (q_h L xs (q_u s 285 11 (tend T E (bs T E i))) O c) = some (.inl (some (.int (q_I (w)))), q_h L xs (t) O c) := a1
        rcases hv with e | e <;> rcases aw with e' | e' <;> subst e <;> subst e' <;> simp (disch := first | omega | exact q_b_01 _) only [↓reduceIte, q_bk0, q_bk1, q_bk2, q_sg_b, q_b_0, q_b_n0, q_b_1, q_b_n1, q_b_T, q_b_F, q_sg_g, q_sg_sg, q_sg_xs, q_sg_id, q_gu_ne, q_gu_eq, q_g_fne, q_g_cpe, q_w_f, q_v_f, q_u_f, q_fn_f, q_cp_f, q_sg_pg, q_sg_hc, q_lt_t, q_lt_f, q_le_t, q_le_f, q_eq_t, q_eq_f, ne_eq, eq_self, Bool.false_eq_true, Bool.true_eq_false, not_true_eq_false, not_false_eq_true, true_and, and_true, false_and, and_false, true_or, or_true, false_or, or_false, if_true, if_false, Int.reduceAdd, Int.reduceMul, Int.reduceSub, Int.reduceNeg, a1', hne, R_248_0, R_248_4, R_248_5, R_248_13, R_248_19, R_248_22, R_248_26, R_248_31, R_248_35, R_248_39, R_248_40, R_248_44, C_248_1, C_248_16, C_248_23] <;> rfl
      | inr p =>
        rw [hp] at k
        obtain ⟨i', q⟩ := p
        obtain ⟨t, w, a1, aw, a2, a3, a4, a5, a6⟩ := k
        have a5' : (q.length : Int) + bs T E (i + 1) ≤ bs T E i' := a5
        have a2' : MS T E (bs T E i') t := a2
        have a4' : 1 ≤ q.length := a4
        have a1' : EV (D + 9) 247 0 [.ref 285, .null, .null, .null] [] (q_h L xs (q_u s 285 11 (tend T E (bs T E i))) O c) = some (.inl (some (.int (q_I (w)))), q_h L xs (t) O c) := a1
        have el : (l ++ q ++ [4003]).length = l.length + q.length + 1 := by simp only [List.length_append, List.length_cons, List.length_nil]
        have e2 : EV (D + 10) 248 5 [.ref 285, .int (q_I (v)), y] [] (q_h L xs s O c) = EV (D + 10) 248 5 [.ref 285, .int (q_I (q_b (v = 1 ∧ w = 1))), .int (q_I (w))] [] (q_h L xs (t) O c) := by
          rw [e1]
          rcases hv with e | e <;> rcases aw with e' | e' <;> subst e <;> subst e' <;> simp (disch := first | omega | exact q_b_01 _) only [↓reduceIte, q_bk0, q_bk1, q_bk2, q_sg_b, q_b_0, q_b_n0, q_b_1, q_b_n1, q_b_T, q_b_F, q_sg_g, q_sg_sg, q_sg_xs, q_sg_id, q_gu_ne, q_gu_eq, q_g_fne, q_g_cpe, q_w_f, q_v_f, q_u_f, q_fn_f, q_cp_f, q_sg_pg, q_sg_hc, q_lt_t, q_lt_f, q_le_t, q_le_f, q_eq_t, q_eq_f, ne_eq, eq_self, Bool.false_eq_true, Bool.true_eq_false, not_true_eq_false, not_false_eq_true, true_and, and_true, false_and, and_false, true_or, or_true, false_or, or_false, if_true, if_false, Int.reduceAdd, Int.reduceMul, Int.reduceSub, Int.reduceNeg, a1', R_248_0, R_248_4, R_248_13, R_248_19, R_248_22, R_248_26, R_248_31, R_248_35, R_248_39, R_248_40, R_248_44, C_248_1, C_248_16, C_248_23] <;> rfl
        have F2 := FM_trans F1 a6
        have ih := mm_evL H hA f i0 i' (l ++ q ++ [4003]) (q_b (v = 1 ∧ w = 1)) (.int (q_I w)) t (by omega) (Fc_m hf F2) (by rw [FM_g F2 (by omega)]; exact hd) a2' (B01_b _) (fun hR => by
          obtain ⟨m1, x1, y1⟩ := hg hR
          obtain ⟨m2, x2, y2⟩ := a3 hR
          exact ⟨A + 1, Nat.le_refl _, Gd.an y1 y2 hv aw x1 (by omega)⟩) (by omega) (by omega) b0
        show MSp T E F r (A + 1) i0 B01 s (pE T E a f i' (l ++ q ++ [4003])) _
        rw [e2]
        cases hq : pE T E a f i' (l ++ q ++ [4003]) with
        | inl e =>
          rw [hq] at ih
          obtain ⟨t4, w4, r1, r2, r3, r4⟩ := ih
          exact ⟨t4, w4, r1, r2, r3, FM_trans F2 r4⟩
        | inr p =>
          rw [hq] at ih
          obtain ⟨t4, w4, r1, r2, r3, r4, r5, r6, r7⟩ := ih
          exact ⟨t4, w4, r1, r2, r3, r4, r5, r6, FM_trans F2 r7⟩
    · rw [if_neg c1]
      rw [if_neg c1] at ha
      refine ⟨_, v, ?_, hv, s1, hg, h1, hl, FM_u FM_refl (by omega)⟩
      show EV (D + 10) 248 5 [.ref 285, .int (q_I (v)), y] [] (q_h L xs s O c) = _
      rw [R_248_5]
      simp (disch := first | omega | exact q_b_01 _) only [↓reduceIte, q_bk0, q_bk1, q_bk2, q_sg_b, q_b_0, q_b_n0, q_b_1, q_b_n1, q_b_T, q_b_F, q_sg_g, q_sg_sg, q_sg_xs, q_sg_id, q_gu_ne, q_gu_eq, q_g_fne, q_g_cpe, q_w_f, q_v_f, q_u_f, q_fn_f, q_cp_f, q_sg_pg, q_sg_hc, q_lt_t, q_lt_f, q_le_t, q_le_f, q_eq_t, q_eq_f, ne_eq, eq_self, Bool.false_eq_true, Bool.true_eq_false, not_true_eq_false, not_false_eq_true, true_and, and_true, false_and, and_false, true_or, or_true, false_or, or_false, if_true, if_false, Int.reduceAdd, Int.reduceMul, Int.reduceSub, Int.reduceNeg, hf0, ha, q_bf c1, R_248_0, R_248_4, R_248_5, R_248_13, R_248_19, R_248_22, R_248_26, R_248_31, R_248_35, R_248_39, R_248_40, R_248_44, C_248_1, C_248_16, C_248_23]
theorem mm_every {a : Nat → PR} {A r D i : Nat} {s : Nat → Int → Int32} (H : TX T E) (hA : MAt T E F L xs O c a A r (D + 9)) (b0 : 1 ≤ bs T E i) (hf : Fc F s) (hd : q_g s 285 13 = 6 - (r : Int)) (hs : MS T E (bs T E i) s) : MSp T E F r (A + 1) i B01 s (pb (a i) (fun i' q => pE T E a 400 i' q)) (fun w t => EV (D + 10) 248 0 [.ref 285, .null, .null] [] (q_h L xs s O c) = some (.inl (some (.int (q_I (w)))), q_h L xs (t) O c)) := by
  have k := hA i s b0 hf hs hd
  cases hp : a i with
  | inl e =>
    rw [hp] at k
    obtain ⟨t, w, a1, aw, a2, a3⟩ := k
    have hne := MG_ne a2
    have a1' : EV (D + 9) 247 0 [.ref 285, .null, .null, .null] [] (q_h L xs s O c) = some (.inl (some (.int (q_I (w)))), q_h L xs (t) O c) := a1
    refine ⟨t, w, ?_, aw, a2, a3⟩
    simp (disch := first | omega | exact q_b_01 _) only [↓reduceIte, q_bk0, q_bk1, q_bk2, q_sg_b, q_b_0, q_b_n0, q_b_1, q_b_n1, q_b_T, q_b_F, q_sg_g, q_sg_sg, q_sg_xs, q_sg_id, q_gu_ne, q_gu_eq, q_g_fne, q_g_cpe, q_w_f, q_v_f, q_u_f, q_fn_f, q_cp_f, q_sg_pg, q_sg_hc, q_lt_t, q_lt_f, q_le_t, q_le_f, q_eq_t, q_eq_f, ne_eq, eq_self, Bool.false_eq_true, Bool.true_eq_false, not_true_eq_false, not_false_eq_true, true_and, and_true, false_and, and_false, true_or, or_true, false_or, or_false, if_true, if_false, Int.reduceAdd, Int.reduceMul, Int.reduceSub, Int.reduceNeg, a1', hne, R_248_0, R_248_4, R_248_5, R_248_13, R_248_19, R_248_22, R_248_26, R_248_31, R_248_35, R_248_39, R_248_40, R_248_44, C_248_1, C_248_16, C_248_23]
  | inr p =>
    rw [hp] at k
    obtain ⟨i', q⟩ := p
    obtain ⟨t, w, a1, aw, a2, a3, a4, a5, a6⟩ := k
    have a1' : EV (D + 9) 247 0 [.ref 285, .null, .null, .null] [] (q_h L xs s O c) = some (.inl (some (.int (q_I (w)))), q_h L xs (t) O c) := a1
    have a5' : (q.length : Int) + bs T E i ≤ bs T E i' := a5
    have a4' : 1 ≤ q.length := a4
    have hE := H.2.1
    have e2 : EV (D + 10) 248 0 [.ref 285, .null, .null] [] (q_h L xs s O c) = EV (D + 10) 248 5 [.ref 285, .int (q_I (w)), .null] [] (q_h L xs (t) O c) := by
      simp (disch := first | omega | exact q_b_01 _) only [↓reduceIte, q_bk0, q_bk1, q_bk2, q_sg_b, q_b_0, q_b_n0, q_b_1, q_b_n1, q_b_T, q_b_F, q_sg_g, q_sg_sg, q_sg_xs, q_sg_id, q_gu_ne, q_gu_eq, q_g_fne, q_g_cpe, q_w_f, q_v_f, q_u_f, q_fn_f, q_cp_f, q_sg_pg, q_sg_hc, q_lt_t, q_lt_f, q_le_t, q_le_f, q_eq_t, q_eq_f, ne_eq, eq_self, Bool.false_eq_true, Bool.true_eq_false, not_true_eq_false, not_false_eq_true, true_and, and_true, false_and, and_false, true_or, or_true, false_or, or_false, if_true, if_false, Int.reduceAdd, Int.reduceMul, Int.reduceSub, Int.reduceNeg, a1', R_248_0, R_248_4, R_248_13, R_248_19, R_248_22, R_248_26, R_248_31, R_248_35, R_248_39, R_248_40, R_248_44, C_248_1, C_248_16, C_248_23]
    have ih := mm_evL H hA 400 i i' q w .null t (by omega) (Fc_m hf a6) (by rw [FM_g a6 (by omega)]; exact hd) a2 aw (fun hR => by
      obtain ⟨m1, x1, y1⟩ := a3 hR
      exact ⟨m1, by omega, y1⟩) a4 a5 b0
    show MSp T E F r (A + 1) i B01 s (pE T E a 400 i' q) _
    rw [e2]
    cases hq : pE T E a 400 i' q with
    | inl e =>
      rw [hq] at ih
      obtain ⟨t4, w4, r1, r2, r3, r4⟩ := ih
      exact ⟨t4, w4, r1, r2, r3, FM_trans a6 r4⟩
    | inr p =>
      rw [hq] at ih
      obtain ⟨t4, w4, r1, r2, r3, r4, r5, r6, r7⟩ := ih
      exact ⟨t4, w4, r1, r2, r3, r4, r5, r6, FM_trans a6 r7⟩
/-- a chain of or, behind a chain of and -/
theorem mm_soL {a : Nat → PR} {A r D : Nat} (H : TX T E) (hA : MAt T E F L xs O c a A r (D + 9)) : ∀ (f i0 i : Nat) (l : List Int) (v : Int) (y : Value) (s : Nat → Int → Int32), E < bs T E i + f → Fc F s → q_g s 285 13 = 6 - (r : Int) → MS T E (bs T E i) s → B01 v → Ge F l v (A + 2) → 1 ≤ l.length → (l.length : Int) + bs T E i0 ≤ bs T E i → 1 ≤ bs T E i0 → MSp T E F r (A + 2) i0 B01 s (pO T E a f i l) (fun w t => EV (D + 11) 249 5 [.ref 285, .int (q_I (v)), y] [] (q_h L xs s O c) = some (.inl (some (.int (q_I (w)))), q_h L xs (t) O c))
  | 0, i0, i, l, v, y, s, hn, hf, hd, hs, hv, hg, h1, hl, b0 => by
    have := MS_le H hs
    omega
  | f + 1, i0, i, l, v, y, s, hn, hf, hd, hs, hv, hg, h1, hl, b0 => by
    have s1 := MS_cur H hs
    have hb := MS_b H hs
    have hf0 := hs.2.1
    have ha := hs_or (d := D + 1) (L := L) (xs := xs) (O := O) (c := c) H hs
    unfold pO
    by_cases c1 : tk T E i 1 6
    · rw [if_pos c1]
      rw [if_pos c1] at ha
      have bE := thg_lt (T := T) (E := E) (b := bs T E i) (by have := c1.1; omega)
      have ng := nxt_gt (T := T) bE
      have en : bs T E (i + 1) = nxt T E (bs T E i) := rfl
      have m := MS_nxt H hs bE
      rw [← en] at m
      have F1 : FM s (q_u s 285 11 (tend T E (bs T E i))) := FM_u FM_refl (by omega)
      have k := mm_every H hA (i := i + 1) (by omega) (Fc_m hf F1) (by rw [FM_g F1 (by omega)]; exact hd) m
      have e1 : EV (D + 11) 249 5 [.ref 285, .int (q_I (v)), y] [] (q_h L xs s O c) = EV (D + 11) 249 24 [.ref 285, .int (q_I (v)), y] [.ref 285] (q_h L xs (q_u s 285 11 (tend T E (bs T E i))) O c) := by
        rw [R_249_5]
        simp (disch := first | omega | exact q_b_01 _) only [↓reduceIte, q_bk0, q_bk1, q_bk2, q_sg_b, q_b_0, q_b_n0, q_b_1, q_b_n1, q_b_T, q_b_F, q_sg_g, q_sg_sg, q_sg_xs, q_sg_id, q_gu_ne, q_gu_eq, q_g_fne, q_g_cpe, q_w_f, q_v_f, q_u_f, q_fn_f, q_cp_f, q_sg_pg, q_sg_hc, q_lt_t, q_lt_f, q_le_t, q_le_f, q_eq_t, q_eq_f, ne_eq, eq_self, Bool.false_eq_true, Bool.true_eq_false, not_true_eq_false, not_false_eq_true, true_and, and_true, false_and, and_false, true_or, or_true, false_or, or_false, if_true, if_false, Int.reduceAdd, Int.reduceMul, Int.reduceSub, Int.reduceNeg, hf0, ha, q_bt c1, R_249_0, R_249_4, R_249_5, R_249_13, R_249_20, R_249_23, R_249_27, R_249_32, R_249_36, R_249_40, R_249_41, R_249_45, C_249_1, C_249_17]
      cases hp : pb (a (i + 1)) (fun i' q => pE T E a 400 i' q) with
      | inl e =>
        rw [hp] at k
        obtain ⟨t, w, a1, aw, a2, a3⟩ := k
        have hne := MG_ne a2
        refine ⟨t, q_b (v = 1 ∨ w = 1), ?_, B01_b _, a2, FM_trans F1 a3⟩
        rw [e1]
        have a1' : EV (D + 10) 248 0 [.ref 285, .null, .null] [] (q_h L xs (q_u s 285 11 (tend T E (bs T E i))) O c) = some (.inl (some (.int (q_I (w)))), q_h L xs (t) O c) := a1
        rcases hv with e | e <;> rcases aw with e' | e' <;> subst e <;> subst e' <;> simp (disch := first | omega | exact q_b_01 _) only [↓reduceIte, q_bk0, q_bk1, q_bk2, q_sg_b, q_b_0, q_b_n0, q_b_1, q_b_n1, q_b_T, q_b_F, q_sg_g, q_sg_sg, q_sg_xs, q_sg_id, q_gu_ne, q_gu_eq, q_g_fne, q_g_cpe, q_w_f, q_v_f, q_u_f, q_fn_f, q_cp_f, q_sg_pg, q_sg_hc, q_lt_t, q_lt_f, q_le_t, q_le_f, q_eq_t, q_eq_f, ne_eq, eq_self, Bool.false_eq_true, Bool.true_eq_false, not_true_eq_false, not_false_eq_true, true_and, and_true, false_and, and_false, true_or, or_true, false_or, or_false, if_true, if_false, Int.reduceAdd, Int.reduceMul, Int.reduceSub, Int.reduceNeg, a1', hne, R_249_0, R_249_4, R_249_5, R_249_13, R_249_20, R_249_23, R_249_27, R_249_32, R_249_36, R_249_40, R_249_41, R_249_45, C_249_1, C_249_17, C_249_24] <;> rfl
      | inr p =>
        rw [hp] at k
        obtain ⟨i', q⟩ := p
        obtain ⟨t, w, a1, aw, a2, a3, a4, a5, a6⟩ := k
        have a5' : (q.length : Int) + bs T E (i + 1) ≤ bs T E i' := a5
        have a2' : MS T E (bs T E i') t := a2
        have a4' : 1 ≤ q.length := a4
        have a1' : EV (D + 10) 248 0 [.ref 285, .null, .null] [] (q_h L xs (q_u s 285 11 (tend T E (bs T E i))) O c) = some (.inl (some (.int (q_I (w)))), q_h L xs (t) O c) := a1
        have el : (l ++ q ++ [4004]).length = l.length + q.length + 1 := by simp only [List.length_append, List.length_cons, List.length_nil]
        have e2 : EV (D + 11) 249 5 [.ref 285, .int (q_I (v)), y] [] (q_h L xs s O c) = EV (D + 11) 249 5 [.ref 285, .int (q_I (q_b (v = 1 ∨ w = 1))), .int (q_I (w))] [] (q_h L xs (t) O c) := by
          rw [e1]
          rcases hv with e | e <;> rcases aw with e' | e' <;> subst e <;> subst e' <;> simp (disch := first | omega | exact q_b_01 _) only [↓reduceIte, q_bk0, q_bk1, q_bk2, q_sg_b, q_b_0, q_b_n0, q_b_1, q_b_n1, q_b_T, q_b_F, q_sg_g, q_sg_sg, q_sg_xs, q_sg_id, q_gu_ne, q_gu_eq, q_g_fne, q_g_cpe, q_w_f, q_v_f, q_u_f, q_fn_f, q_cp_f, q_sg_pg, q_sg_hc, q_lt_t, q_lt_f, q_le_t, q_le_f, q_eq_t, q_eq_f, ne_eq, eq_self, Bool.false_eq_true, Bool.true_eq_false, not_true_eq_false, not_false_eq_true, true_and, and_true, false_and, and_false, true_or, or_true, false_or, or_false, if_true, if_false, Int.reduceAdd, Int.reduceMul, Int.reduceSub, Int.reduceNeg, a1', R_249_0, R_249_4, R_249_13, R_249_20, R_249_23, R_249_27, R_249_32, R_249_36, R_249_40, R_249_41, R_249_45, C_249_1, C_249_17, C_249_24] <;> rfl
        have F2 := FM_trans F1 a6
        have ih := mm_soL H hA f i0 i' (l ++ q ++ [4004]) (q_b (v = 1 ∨ w = 1)) (.int (q_I w)) t (by omega) (Fc_m hf F2) (by rw [FM_g F2 (by omega)]; exact hd) a2' (B01_b _) (fun hR => by
          obtain ⟨m1, x1, y1⟩ := hg hR
          obtain ⟨m2, x2, y2⟩ := a3 hR
          exact ⟨A + 2, Nat.le_refl _, Gd.orr y1 y2 hv aw x1 (by omega)⟩) (by omega) (by omega) b0
        show MSp T E F r (A + 2) i0 B01 s (pO T E a f i' (l ++ q ++ [4004])) _
        rw [e2]
        cases hq : pO T E a f i' (l ++ q ++ [4004]) with
        | inl e =>
          rw [hq] at ih
          obtain ⟨t4, w4, r1, r2, r3, r4⟩ := ih
          exact ⟨t4, w4, r1, r2, r3, FM_trans F2 r4⟩
        | inr p =>
          rw [hq] at ih
          obtain ⟨t4, w4, r1, r2, r3, r4, r5, r6, r7⟩ := ih
          exact ⟨t4, w4, r1, r2, r3, r4, r5, r6, FM_trans F2 r7⟩
    · rw [if_neg c1]
      rw [if_neg c1] at ha
      refine ⟨_, v, ?_, hv, s1, hg, h1, hl, FM_u FM_refl (by omega)⟩
      show EV (D + 11) 249 5 [.ref 285, .int (q_I (v)), y] [] (q_h L xs s O c) = _
      rw [R_249_5]
      simp (disch := first | omega | exact q_b_01 _) only [↓reduceIte, q_bk0, q_bk1, q_bk2, q_sg_b, q_b_0, q_b_n0, q_b_1, q_b_n1, q_b_T, q_b_F, q_sg_g, q_sg_sg, q_sg_xs, q_sg_id, q_gu_ne, q_gu_eq, q_g_fne, q_g_cpe, q_w_f, q_v_f, q_u_f, q_fn_f, q_cp_f, q_sg_pg, q_sg_hc, q_lt_t, q_lt_f, q_le_t, q_le_f, q_eq_t, q_eq_f, ne_eq, eq_self, Bool.false_eq_true, Bool.true_eq_false, not_true_eq_false, not_false_eq_true, true_and, and_true, false_and, and_false, true_or, or_true, false_or, or_false, if_true, if_false, Int.reduceAdd, Int.reduceMul, Int.reduceSub, Int.reduceNeg, hf0, ha, q_bf c1, R_249_0, R_249_4, R_249_5, R_249_13, R_249_20, R_249_23, R_249_27, R_249_32, R_249_36, R_249_40, R_249_41, R_249_45, C_249_1, C_249_17, C_249_24]
theorem mm_some {a : Nat → PR} {A r D i : Nat} {s : Nat → Int → Int32} (H : TX T E) (hA : MAt T E F L xs O c a A r (D + 9)) (b0 : 1 ≤ bs T E i) (hf : Fc F s) (hd : q_g s 285 13 = 6 - (r : Int)) (hs : MS T E (bs T E i) s) : MSp T E F r (A + 2) i B01 s (pC T E a i) (fun w t => EV (D + 11) 249 0 [.ref 285, .null, .null] [] (q_h L xs s O c) = some (.inl (some (.int (q_I (w)))), q_h L xs (t) O c)) := by
  have k := mm_every H hA b0 hf hd hs
  unfold pC
  cases hp : pb (a i) (fun i' q => pE T E a 400 i' q) with
  | inl e =>
    rw [hp] at k
    obtain ⟨t, w, a1, aw, a2, a3⟩ := k
    have hne := MG_ne a2
    have a1' : EV (D + 10) 248 0 [.ref 285, .null, .null] [] (q_h L xs s O c) = some (.inl (some (.int (q_I (w)))), q_h L xs (t) O c) := a1
    refine ⟨t, w, ?_, aw, a2, a3⟩
    simp (disch := first | omega | exact q_b_01 _) only [↓reduceIte, q_bk0, q_bk1, q_bk2, q_sg_b, q_b_0, q_b_n0, q_b_1, q_b_n1, q_b_T, q_b_F, q_sg_g, q_sg_sg, q_sg_xs, q_sg_id, q_gu_ne, q_gu_eq, q_g_fne, q_g_cpe, q_w_f, q_v_f, q_u_f, q_fn_f, q_cp_f, q_sg_pg, q_sg_hc, q_lt_t, q_lt_f, q_le_t, q_le_f, q_eq_t, q_eq_f, ne_eq, eq_self, Bool.false_eq_true, Bool.true_eq_false, not_true_eq_false, not_false_eq_true, true_and, and_true, false_and, and_false, true_or, or_true, false_or, or_false, if_true, if_false, Int.reduceAdd, Int.reduceMul, Int.reduceSub, Int.reduceNeg, a1', hne, R_249_0, R_249_4, R_249_5, R_249_13, R_249_20, R_249_23, R_249_27, R_249_32, R_249_36, R_249_40, R_249_41, R_249_45, C_249_1, C_249_17, C_249_24]
  | inr p =>
    rw [hp] at k
    obtain ⟨i', q⟩ := p
    obtain ⟨t, w, a1, aw, a2, a3, a4, a5, a6⟩ := k
    have a1' : EV (D + 10) 248 0 [.ref 285, .null, .null] [] (q_h L xs s O c) = some (.inl (some (.int (q_I (w)))), q_h L xs (t) O c) := a1
    have a5' : (q.length : Int) + bs T E i ≤ bs T E i' := a5
    have a4' : 1 ≤ q.length := a4
    have hE := H.2.1
    have e2 : EV (D + 11) 249 0 [.ref 285, .null, .null] [] (q_h L xs s O c) = EV (D + 11) 249 5 [.ref 285, .int (q_I (w)), .null] [] (q_h L xs (t) O c) := by
      simp (disch := first | omega | exact q_b_01 _) only [↓reduceIte, q_bk0, q_bk1, q_bk2, q_sg_b, q_b_0, q_b_n0, q_b_1, q_b_n1, q_b_T, q_b_F, q_sg_g, q_sg_sg, q_sg_xs, q_sg_id, q_gu_ne, q_gu_eq, q_g_fne, q_g_cpe, q_w_f, q_v_f, q_u_f, q_fn_f, q_cp_f, q_sg_pg, q_sg_hc, q_lt_t, q_lt_f, q_le_t, q_le_f, q_eq_t, q_eq_f, ne_eq, eq_self, Bool.false_eq_true, Bool.true_eq_false, not_true_eq_false, not_false_eq_true, true_and, and_true, false_and, and_false, true_or, or_true, false_or, or_false, if_true, if_false, Int.reduceAdd, Int.reduceMul, Int.reduceSub, Int.reduceNeg, a1', R_249_0, R_249_4, R_249_13, R_249_20, R_249_23, R_249_27, R_249_32, R_249_36, R_249_40, R_249_41, R_249_45, C_249_1, C_249_17, C_249_24]
    have ih := mm_soL H hA 400 i i' q w .null t (by omega) (Fc_m hf a6) (by rw [FM_g a6 (by omega)]; exact hd) a2 aw (fun hR => by
      obtain ⟨m1, x1, y1⟩ := a3 hR
      exact ⟨m1, by omega, y1⟩) a4 a5 b0
    show MSp T E F r (A + 2) i B01 s (pO T E a 400 i' q) _
    rw [e2]
    cases hq : pO T E a 400 i' q with
    | inl e =>
      rw [hq] at ih
      obtain ⟨t4, w4, r1, r2, r3, r4⟩ := ih
      exact ⟨t4, w4, r1, r2, r3, FM_trans a6 r4⟩
    | inr p =>
      rw [hq] at ih
      obtain ⟨t4, w4, r1, r2, r3, r4, r5, r6, r7⟩ := ih
      exact ⟨t4, w4, r1, r2, r3, r4, r5, r6, FM_trans a6 r7⟩
end MLC
