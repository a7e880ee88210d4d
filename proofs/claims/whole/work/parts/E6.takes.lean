/-! PAGES ARE TAKEN, of both -/
noncomputable def CTk (m F : Int → Int) (k : Int) (s : Nat → Int → Int32) : Prop :=
  (∀ p, 0 ≤ p → p < 48 → q_g s 252 p = if Us m p ∧ nu m p < k then -1 else F p) ∧ q_g s 251 3 = LM m ∧ q_g s 241 12 = hgh m k ∧ (2 ≤ q_g s 241 13 ∧ q_g s 241 13 ≤ 48 ∧ ∀ p, 0 ≤ p → p < q_g s 241 13 → Us m p → nu m p < k) ∧ q_g s 251 2 = q_S (fun p => q_b (F p ≠ -1)) 0 48 - (if k < nu m 48 then k else nu m 48)
noncomputable def FuI (m F : Int → Int) : Prop := ∀ p, 0 ≤ p → p < 48 → (F p ≠ -1 ∧ F p ≤ LM m ↔ Us m p)
noncomputable def MTk (m F : Int → Int) (k : Int) (s : Nat → Int → Int32) : Prop :=
  q_g s 286 = m ∧ (∀ p, 0 ≤ p → p < 48 → q_g s 303 p = F p ∧ q_g s 302 p = q_b (TK m k p)) ∧ q_g s 285 35 = hgh m k ∧ q_g s 285 36 = 0
/-- what a take leaves as it was -/
noncomputable def Ft (s u : Nat → Int → Int32) : Prop := ∀ k z, ¬ (k = 241 ∧ (z = 12 ∨ z = 13)) → ¬ (k = 251 ∧ z = 2) → k ≠ 252 → u k z = s k z
noncomputable def Gt (s u : Nat → Int → Int32) : Prop := ∀ k z, ¬ (k = 285 ∧ (z = 35 ∨ z = 36)) → k ≠ 302 → u k z = s k z
section TKS
variable {d L : Nat} {xs : Nat → Int32} {s u : Nat → Int → Int32} {O : Nat → Int64} {c : Bool × Nat × Nat} {m F : Int → Int} {k : Int}
theorem cc_takeL (hF : FuI m F) : ∀ (f : Nat) (s : Nat → Int → Int32), 48 - q_g s 241 13 ≤ f → CTk m F k s → ∃ u, EV (d) 88 0 [.ref 241] [] (q_h L xs s O c) = EV (d) 88 60 [.ref 241] [] (q_h L xs (u) O c) ∧ CTk m F k u ∧ (q_g u 241 13 < 48 → Us m (q_g u 241 13) ∧ k ≤ nu m (q_g u 241 13)) ∧ ∀ k z, ¬ (k = 241 ∧ z = 13) → u k z = s k z
  | f, s, hf, C => by
    obtain ⟨c1, c2, c3, ⟨c4, c5, c6⟩, c7⟩ := id C
    by_cases e : q_g s 241 13 = 48
    · refine ⟨s, ?_, C, fun z => by omega, fun _ _ _ => rfl⟩
      rw [R_88_0]
      simp (disch := first | omega | exact q_b_01 _) only [↓reduceIte, q_bk0, q_bk1, q_bk2, q_sg_b, q_b_0, q_b_n0, q_b_1, q_b_n1, q_b_T, q_b_F, q_sg_g, q_sg_sg, q_sg_xs, q_sg_id, q_gu_ne, q_gu_eq, q_g_fne, q_g_cpe, q_w_f, q_v_f, q_u_f, q_fn_f, q_cp_f, q_sg_pg, q_sg_hc, q_lt_t, q_lt_f, q_le_t, q_le_f, q_eq_t, q_eq_f, ne_eq, eq_self, Bool.false_eq_true, Bool.true_eq_false, not_true_eq_false, not_false_eq_true, true_and, and_true, false_and, and_false, true_or, or_true, false_or, or_false, if_true, if_false, Int.reduceAdd, Int.reduceMul, Int.reduceSub, Int.reduceNeg]
    · have v := c1 (q_g s 241 13) (by omega) (by omega)
      have lr := q_g_rg s 251 3
      by_cases st : Us m (q_g s 241 13) ∧ k ≤ nu m (q_g s 241 13)
      · rw [if_neg (by omega)] at v
        have hu := (hF _ (by omega) (by omega)).mpr st.1
        rw [← v] at hu
        refine ⟨s, ?_, C, fun _ => st, fun _ _ _ => rfl⟩
        rw [R_88_0]
        simp (disch := first | omega | exact q_b_01 _) only [↓reduceIte, q_bk0, q_bk1, q_bk2, q_sg_b, q_b_0, q_b_n0, q_b_1, q_b_n1, q_b_T, q_b_F, q_sg_g, q_sg_sg, q_sg_xs, q_sg_id, q_gu_ne, q_gu_eq, q_g_fne, q_g_cpe, q_w_f, q_v_f, q_u_f, q_fn_f, q_cp_f, q_sg_pg, q_sg_hc, q_lt_t, q_lt_f, q_le_t, q_le_f, q_eq_t, q_eq_f, ne_eq, eq_self, Bool.false_eq_true, Bool.true_eq_false, not_true_eq_false, not_false_eq_true, true_and, and_true, false_and, and_false, true_or, or_true, false_or, or_false, if_true, if_false, Int.reduceAdd, Int.reduceMul, Int.reduceSub, Int.reduceNeg, hu.1, R_88_9, R_88_21, R_88_25, R_88_37, R_88_47, R_88_57, R_88_69, R_88_82, R_88_95, R_88_100, R_88_108, R_88_117, R_88_119, R_88_129]
      · cases f with
        | zero => omega
        | succ f =>
          have g13 : q_g (q_u s 241 13 (q_g s 241 13 + 1)) 241 13 = q_g s 241 13 + 1 := by rw [q_gu_eq rfl, q_sg_id (by omega) (by omega)]
          have nx : CTk m F k (q_u s 241 13 (q_g s 241 13 + 1)) := by
            refine ⟨fun p p0 p1 => by rw [q_gu_ne (by omega)]; exact c1 p p0 p1, by rw [q_gu_ne (by omega)]; exact c2, by rw [q_gu_ne (by omega)]; exact c3, ⟨by omega, by omega, fun p p0 p1 hu => ?_⟩, by rw [q_gu_ne (by omega)]; exact c7⟩
            by_cases e' : p = q_g s 241 13
            · have : ¬ (Us m p ∧ k ≤ nu m p) := by rw [e']; exact st
              exact Int.not_le.mp (fun q => this ⟨hu, q⟩)
            · exact c6 p p0 (by omega) hu
          obtain ⟨u, u1, u2, u3, u4⟩ := cc_takeL hF f (q_u s 241 13 (q_g s 241 13 + 1)) (by omega) nx
          refine ⟨u, ?_, u2, u3, fun k z hk => by rw [u4 k z hk, q_u_n (by omega)]⟩
          rw [← u1, R_88_0]
          by_cases e1 : q_g s 252 (q_g s 241 13) = -1
          · simp (disch := first | omega | exact q_b_01 _) only [↓reduceIte, q_bk0, q_bk1, q_bk2, q_sg_b, q_b_0, q_b_n0, q_b_1, q_b_n1, q_b_T, q_b_F, q_sg_g, q_sg_sg, q_sg_xs, q_sg_id, q_gu_ne, q_gu_eq, q_g_fne, q_g_cpe, q_w_f, q_v_f, q_u_f, q_fn_f, q_cp_f, q_sg_pg, q_sg_hc, q_lt_t, q_lt_f, q_le_t, q_le_f, q_eq_t, q_eq_f, ne_eq, eq_self, Bool.false_eq_true, Bool.true_eq_false, not_true_eq_false, not_false_eq_true, true_and, and_true, false_and, and_false, true_or, or_true, false_or, or_false, if_true, if_false, Int.reduceAdd, Int.reduceMul, Int.reduceSub, Int.reduceNeg, e1, R_88_9, R_88_21, R_88_25, R_88_37, R_88_47, R_88_57, R_88_69, R_88_82, R_88_95, R_88_100, R_88_108, R_88_117, R_88_119, R_88_129]
          · have nl : ¬ q_g s 252 (q_g s 241 13) ≤ q_g s 251 3 := fun hl => by
              by_cases c0 : Us m (q_g s 241 13) ∧ nu m (q_g s 241 13) < k
              · rw [if_pos c0] at v
                exact e1 v
              · rw [if_neg c0] at v
                have hu := (hF (q_g s 241 13) (by omega) (by omega)).mp ⟨by omega, by omega⟩
                exact st ⟨hu, Int.not_lt.mp (fun q => c0 ⟨hu, q⟩)⟩
            simp (disch := first | omega | exact q_b_01 _) only [↓reduceIte, q_bk0, q_bk1, q_bk2, q_sg_b, q_b_0, q_b_n0, q_b_1, q_b_n1, q_b_T, q_b_F, q_sg_g, q_sg_sg, q_sg_xs, q_sg_id, q_gu_ne, q_gu_eq, q_g_fne, q_g_cpe, q_w_f, q_v_f, q_u_f, q_fn_f, q_cp_f, q_sg_pg, q_sg_hc, q_lt_t, q_lt_f, q_le_t, q_le_f, q_eq_t, q_eq_f, ne_eq, eq_self, Bool.false_eq_true, Bool.true_eq_false, not_true_eq_false, not_false_eq_true, true_and, and_true, false_and, and_false, true_or, or_true, false_or, or_false, if_true, if_false, Int.reduceAdd, Int.reduceMul, Int.reduceSub, Int.reduceNeg, e1, R_88_9, R_88_21, R_88_25, R_88_37, R_88_47, R_88_57, R_88_69, R_88_82, R_88_95, R_88_100, R_88_108, R_88_117, R_88_119, R_88_129]
theorem cc_take (I : TkI m) (hF : FuI m F) (C : CTk m F k s) (k0 : 0 ≤ k) (kc : k ≤ cap m) : (k < cap m → ∃ u, EV (d) 88 0 [.ref 241] [] (q_h L xs s O c) = some (.inl (some (.int (q_I (tp m k)))), q_h L xs (u) O c) ∧ CTk m F (k + 1) u ∧ Ft s u) ∧ (k = cap m → ∃ u, EV (d) 88 0 [.ref 241] [] (q_h L xs s O c) = some (.inl (some (.int (q_I (-1)))), q_h L xs (u) O c) ∧ Ft s u) := by
  obtain ⟨u, u1, ⟨c1, c2, c3, ⟨c4, c5, c6⟩, c7⟩, u3, u4⟩ := cc_takeL (d := d) (L := L) (xs := xs) (O := O) (c := c) hF 48 s (by have := C.2.2.2.1.1; omega) C
  have n48 := nu_ge (m := m) (p := 48) (by omega)
  have n48' := nu_le (m := m) (p := 48) (by omega)
  have i2 := I.2
  have hu : ∀ n : Nat, (n : Int) ≤ q_g u 241 13 → nu m n ≤ k := fun n hn => Classical.byContradiction fun hk => by
    obtain ⟨p, a1, a2, a3, a4⟩ := nu_ex (m := m) (k := k) n k0 (by omega)
    have := c6 p a1 (by omega) a3
    omega
  have rb := q_S_bd (f := fun p => q_b (F p ≠ -1)) (lo := 0) (hi := 48) (a := 0) (b := 1) (fun i _ _ => by have := q_b_01 (F i ≠ -1); omega) (by omega)
  by_cases e : q_g u 241 13 < 48
  · obtain ⟨s1, s2⟩ := u3 e
    have n13 : nu m (q_g u 241 13) = k := by
      have := hu (q_g u 241 13).toNat (by omega)
      rw [show (((q_g u 241 13).toNat : Nat) : Int) = q_g u 241 13 by omega] at this
      omega
    have it : IsT m k (q_g u 241 13) := Or.inl ⟨by omega, e, s1, n13⟩
    have lt := IsT_cap I it
    have ln := nu_lt (m := m) (p := q_g u 241 13) (q := 48) (by omega) s1 e
    refine ⟨fun _ => ?_, fun z => by omega⟩
    have g2 : q_g (q_u u 252 (q_g u 241 13) (-1)) 251 2 = q_g u 251 2 := q_gu_ne (by omega)
    refine ⟨q_u (q_u u 252 (q_g u 241 13) (-1)) 251 2 (q_g u 251 2 - 1), ?_, ⟨fun p p0 p1 => ?_, by rw [q_gu_ne (by omega), q_gu_ne (by omega)]; exact c2, ?_, ?_, ?_⟩, fun k z h1 h2 h3 => by rw [q_u_n (by omega), q_u_n (by omega), u4 k z (by omega)]⟩
    · rw [u1, tp_eq I it]
      simp (disch := first | omega | exact q_b_01 _) only [↓reduceIte, q_bk0, q_bk1, q_bk2, q_sg_b, q_b_0, q_b_n0, q_b_1, q_b_n1, q_b_T, q_b_F, q_sg_g, q_sg_sg, q_sg_xs, q_sg_id, q_gu_ne, q_gu_eq, q_g_fne, q_g_cpe, q_w_f, q_v_f, q_u_f, q_fn_f, q_cp_f, q_sg_pg, q_sg_hc, q_lt_t, q_lt_f, q_le_t, q_le_f, q_eq_t, q_eq_f, ne_eq, eq_self, Bool.false_eq_true, Bool.true_eq_false, not_true_eq_false, not_false_eq_true, true_and, and_true, false_and, and_false, true_or, or_true, false_or, or_false, if_true, if_false, Int.reduceAdd, Int.reduceMul, Int.reduceSub, Int.reduceNeg, R_88_9, R_88_21, R_88_25, R_88_37, R_88_47, R_88_57, R_88_60, R_88_69, R_88_82, R_88_95, R_88_100, R_88_108, R_88_117, R_88_119, R_88_129]
    · rw [q_gu_ne (by omega)]
      by_cases ep : p = q_g u 241 13
      · rw [q_gu_eq (by omega), if_pos ⟨by rw [ep]; exact s1, by rw [ep]; omega⟩]
        rfl
      · rw [q_gu_ne (by omega), c1 p p0 p1]
        by_cases hp : Us m p
        · have ne : nu m p ≠ k := fun q => ep (nu_inj p0 (by omega) hp s1 (by omega))
          by_cases c0 : nu m p < k
          · rw [if_pos ⟨hp, c0⟩, if_pos ⟨hp, by omega⟩]
          · rw [if_neg (by omega), if_neg (by omega)]
        · rw [if_neg (fun q => hp q.1), if_neg (fun q => hp q.1)]
    · rw [q_gu_ne (by omega), q_gu_ne (by omega), c3, hgh_1 it, if_neg (by omega)]
    · rw [q_gu_ne (by omega), q_gu_ne (by omega)]
      exact ⟨c4, c5, fun p p0 p1 hp => by have := c6 p p0 p1 hp; omega⟩
    · rw [if_pos (by omega)] at c7
      rw [q_gu_eq rfl, q_sg_id (by omega) (by omega), c7]
      split <;> omega
  · have e48 : q_g u 241 13 = 48 := by omega
    have nk : nu m 48 ≤ k := hu 48 (by show (48 : Int) ≤ _; omega)
    have hh : hgh m k = hc m 3 + (k - nu m 48) := by
      unfold hgh
      split <;> omega
    have cp : cap m = nu m 48 + (48 - hc m 3) := rfl
    refine ⟨fun lt => ?_, fun eq => ?_⟩
    · have it : IsT m k (q_g u 241 12) := Or.inr ⟨nk, by omega, by omega⟩
      have g12 : q_g (q_u u 241 12 (q_g u 241 12 + 1)) 241 12 = q_g u 241 12 + 1 := by rw [q_gu_eq rfl, q_sg_id (by omega) (by omega)]
      refine ⟨q_u u 241 12 (q_g u 241 12 + 1), ?_, ⟨fun p p0 p1 => ?_, by rw [q_gu_ne (by omega)]; exact c2, ?_, ?_, ?_⟩, fun k z h1 h2 h3 => by rw [q_u_n (by omega), u4 k z (by omega)]⟩
      · rw [u1, tp_eq I it]
        simp (disch := first | omega | exact q_b_01 _) only [↓reduceIte, q_bk0, q_bk1, q_bk2, q_sg_b, q_b_0, q_b_n0, q_b_1, q_b_n1, q_b_T, q_b_F, q_sg_g, q_sg_sg, q_sg_xs, q_sg_id, q_gu_ne, q_gu_eq, q_g_fne, q_g_cpe, q_w_f, q_v_f, q_u_f, q_fn_f, q_cp_f, q_sg_pg, q_sg_hc, q_lt_t, q_lt_f, q_le_t, q_le_f, q_eq_t, q_eq_f, ne_eq, eq_self, Bool.false_eq_true, Bool.true_eq_false, not_true_eq_false, not_false_eq_true, true_and, and_true, false_and, and_false, true_or, or_true, false_or, or_false, if_true, if_false, Int.reduceAdd, Int.reduceMul, Int.reduceSub, Int.reduceNeg, g12, R_88_9, R_88_21, R_88_25, R_88_37, R_88_47, R_88_57, R_88_60, R_88_69, R_88_82, R_88_95, R_88_100, R_88_108, R_88_117, R_88_119, R_88_129]
        rw [show q_g u 241 12 + 1 - 1 = q_g u 241 12 by omega]
      · rw [q_gu_ne (by omega), c1 p p0 p1]
        by_cases hp : Us m p
        · have := nu_lt p0 hp p1
          rw [if_pos ⟨hp, by omega⟩, if_pos ⟨hp, by omega⟩]
        · rw [if_neg (fun q => hp q.1), if_neg (fun q => hp q.1)]
      · rw [g12, c3, hgh_1 it, if_pos nk]
      · rw [q_gu_ne (by omega)]
        exact ⟨c4, c5, fun p p0 p1 hp => by have := c6 p p0 p1 hp; omega⟩
      · rw [q_gu_ne (by omega), c7, if_neg (by omega), if_neg (by omega)]
    · refine ⟨u, ?_, fun k z h1 h2 h3 => u4 k z (by omega)⟩
      rw [u1]
      simp (disch := first | omega | exact q_b_01 _) only [↓reduceIte, q_bk0, q_bk1, q_bk2, q_sg_b, q_b_0, q_b_n0, q_b_1, q_b_n1, q_b_T, q_b_F, q_sg_g, q_sg_sg, q_sg_xs, q_sg_id, q_gu_ne, q_gu_eq, q_g_fne, q_g_cpe, q_w_f, q_v_f, q_u_f, q_fn_f, q_cp_f, q_sg_pg, q_sg_hc, q_lt_t, q_lt_f, q_le_t, q_le_f, q_eq_t, q_eq_f, ne_eq, eq_self, Bool.false_eq_true, Bool.true_eq_false, not_true_eq_false, not_false_eq_true, true_and, and_true, false_and, and_false, true_or, or_true, false_or, or_false, if_true, if_false, Int.reduceAdd, Int.reduceMul, Int.reduceSub, Int.reduceNeg, R_88_9, R_88_21, R_88_25, R_88_37, R_88_47, R_88_57, R_88_60, R_88_69, R_88_82, R_88_95, R_88_100, R_88_108, R_88_117, R_88_119, R_88_129]
theorem mm_takes (I : TkI m) (hF : FuI m F) (C : MTk m F k s) (k0 : 0 ≤ k) (kc : k ≤ cap m) : (k < cap m → ∃ u, EV (d + 4) 272 0 [.ref 285, .null] [] (q_h L xs s O c) = some (.inl (some (.int (q_I (tp m k)))), q_h L xs (u) O c) ∧ MTk m F (k + 1) u ∧ Gt s u) ∧ (k = cap m → ∃ u, EV (d + 4) 272 0 [.ref 285, .null] [] (q_h L xs s O c) = some (.inl (some (.int (q_I (0)))), q_h L xs (u) O c) ∧ q_g u 285 36 = 1 ∧ Gt s u) := by
  obtain ⟨em, c1, c3, c4⟩ := C
  have n48 := nu_ge (m := m) (p := 48) (by omega)
  have i2 := I.2
  have us : ∀ j, 0 ≤ j → j < 48 → EV (d + 3) 270 0 [.ref 285, .int (q_I (j)), .null, .null] [] (q_h L xs s O c) = some (.inl (some (.int (q_I (q_b (Us m j))))), q_h L xs (s) O c) := fun j j0 j1 => by
    rw [mm_isUsable j0 j1, em, (c1 j j0 j1).1]
    exact q_Rb (hF j j0 j1)
  have key := q_fd (fun j => EV (d + 4) 272 2 [.ref 285, .int (q_I (j))] [] (q_h L xs s O c)) (fun j => Us m j ∧ ¬ TK m k j) (lo := 0) (hi := 48) (by omega) (EV (d + 4) 272 43 [.ref 285, .int (q_I (48))] [] (q_h L xs s O c)) (fun j => some (.inl (some (.int (q_I (j)))), q_h L xs (q_u s 302 j 1) O c)) (by
      show EV (d + 4) 272 2 [.ref 285, .int (q_I (48))] [] (q_h L xs s O c) = _
      rw [R_272_2]
      simp (disch := first | omega | exact q_b_01 _) only [↓reduceIte, q_bk0, q_bk1, q_bk2, q_sg_b, q_b_0, q_b_n0, q_b_1, q_b_n1, q_b_T, q_b_F, q_sg_g, q_sg_sg, q_sg_xs, q_sg_id, q_gu_ne, q_gu_eq, q_g_fne, q_g_cpe, q_w_f, q_v_f, q_u_f, q_fn_f, q_cp_f, q_sg_pg, q_sg_hc, q_lt_t, q_lt_f, q_le_t, q_le_f, q_eq_t, q_eq_f, ne_eq, eq_self, Bool.false_eq_true, Bool.true_eq_false, not_true_eq_false, not_false_eq_true, true_and, and_true, false_and, and_false, true_or, or_true, false_or, or_false, if_true, if_false, Int.reduceAdd, Int.reduceMul, Int.reduceSub, Int.reduceNeg]) (fun j j0 j1 hj => by
      show EV (d + 4) 272 2 [.ref 285, .int (q_I (j))] [] (q_h L xs s O c) = _
      have t0 : q_g s 302 j = 0 := by rw [(c1 j j0 j1).2, q_bf hj.2]
      have u0 := us j j0 j1
      rw [q_bt hj.1] at u0
      rw [R_272_2]
      simp (disch := first | omega | exact q_b_01 _) only [↓reduceIte, q_bk0, q_bk1, q_bk2, q_sg_b, q_b_0, q_b_n0, q_b_1, q_b_n1, q_b_T, q_b_F, q_sg_g, q_sg_sg, q_sg_xs, q_sg_id, q_gu_ne, q_gu_eq, q_g_fne, q_g_cpe, q_w_f, q_v_f, q_u_f, q_fn_f, q_cp_f, q_sg_pg, q_sg_hc, q_lt_t, q_lt_f, q_le_t, q_le_f, q_eq_t, q_eq_f, ne_eq, eq_self, Bool.false_eq_true, Bool.true_eq_false, not_true_eq_false, not_false_eq_true, true_and, and_true, false_and, and_false, true_or, or_true, false_or, or_false, if_true, if_false, Int.reduceAdd, Int.reduceMul, Int.reduceSub, Int.reduceNeg, t0, u0, R_272_0, R_272_8, R_272_14, R_272_17, R_272_22, R_272_25, R_272_28, R_272_35, R_272_37, R_272_52, R_272_57, R_272_59, R_272_69, R_272_79, C_272_19]) (fun j j0 j1 hj => by
      show EV (d + 4) 272 2 [.ref 285, .int (q_I (j))] [] (q_h L xs s O c) = EV (d + 4) 272 2 [.ref 285, .int (q_I (j + 1))] [] (q_h L xs s O c)
      rw [R_272_2 (x1 := j)]
      by_cases ct : TK m k j
      · have t0 : q_g s 302 j = 1 := by rw [(c1 j j0 j1).2, q_bt ct]
        simp (disch := first | omega | exact q_b_01 _) only [↓reduceIte, q_bk0, q_bk1, q_bk2, q_sg_b, q_b_0, q_b_n0, q_b_1, q_b_n1, q_b_T, q_b_F, q_sg_g, q_sg_sg, q_sg_xs, q_sg_id, q_gu_ne, q_gu_eq, q_g_fne, q_g_cpe, q_w_f, q_v_f, q_u_f, q_fn_f, q_cp_f, q_sg_pg, q_sg_hc, q_lt_t, q_lt_f, q_le_t, q_le_f, q_eq_t, q_eq_f, ne_eq, eq_self, Bool.false_eq_true, Bool.true_eq_false, not_true_eq_false, not_false_eq_true, true_and, and_true, false_and, and_false, true_or, or_true, false_or, or_false, if_true, if_false, Int.reduceAdd, Int.reduceMul, Int.reduceSub, Int.reduceNeg, t0, R_272_0, R_272_8, R_272_14, R_272_17, R_272_22, R_272_25, R_272_28, R_272_35, R_272_37, R_272_52, R_272_57, R_272_59, R_272_69, R_272_79, C_272_19]
      · have t0 : q_g s 302 j = 0 := by rw [(c1 j j0 j1).2, q_bf ct]
        have u0 := us j j0 j1
        rw [q_bf (fun q => hj ⟨q, ct⟩)] at u0
        simp (disch := first | omega | exact q_b_01 _) only [↓reduceIte, q_bk0, q_bk1, q_bk2, q_sg_b, q_b_0, q_b_n0, q_b_1, q_b_n1, q_b_T, q_b_F, q_sg_g, q_sg_sg, q_sg_xs, q_sg_id, q_gu_ne, q_gu_eq, q_g_fne, q_g_cpe, q_w_f, q_v_f, q_u_f, q_fn_f, q_cp_f, q_sg_pg, q_sg_hc, q_lt_t, q_lt_f, q_le_t, q_le_f, q_eq_t, q_eq_f, ne_eq, eq_self, Bool.false_eq_true, Bool.true_eq_false, not_true_eq_false, not_false_eq_true, true_and, and_true, false_and, and_false, true_or, or_true, false_or, or_false, if_true, if_false, Int.reduceAdd, Int.reduceMul, Int.reduceSub, Int.reduceNeg, t0, u0, R_272_0, R_272_8, R_272_14, R_272_17, R_272_22, R_272_25, R_272_28, R_272_35, R_272_37, R_272_52, R_272_57, R_272_59, R_272_69, R_272_79, C_272_19])
  have nx : ∀ p, IsT m k p → ∀ q, 0 ≤ q → q < 48 → (if q = p then (1 : Int) else q_b (TK m k q)) = q_b (TK m (k + 1) q) := fun p it q q0 q1 => by
    by_cases e : q = p
    · rw [if_pos e, q_bt ((TK_1 I it).mpr (Or.inr e))]
    · rw [if_neg e]
      exact q_b_c ((TK_1 I it).trans ⟨fun z => z.elim id (fun z => absurd z e), Or.inl⟩).symm
  rcases key with ⟨j, j0, j1, hj, hb, ej⟩ | ⟨hn, ej⟩
  · have nj : nu m j = k := by
      have h1 : k ≤ nu m j := Classical.byContradiction fun q => hj.2 (Or.inl ⟨hj.1, by omega⟩)
      have h2 : nu m j ≤ k := Classical.byContradiction fun q => by
        obtain ⟨p, a1, a2, a3, a4⟩ := nu_ex (m := m) (k := k) j.toNat k0 (by rw [show ((j.toNat : Nat) : Int) = j by omega]; omega)
        refine hb p a1 (by omega) ⟨a3, ?_⟩
        rintro (⟨b1, b2⟩ | ⟨b1, b2⟩)
        · omega
        · have := I.1 p a3
          omega
      omega
    have it : IsT m k j := Or.inl ⟨j0, j1, hj.1, nj⟩
    have lt := IsT_cap I it
    have ln := nu_lt (m := m) (p := j) (q := 48) j0 hj.1 j1
    refine ⟨fun _ => ⟨q_u s 302 j 1, ?_, ⟨by rw [q_u_f (by omega)]; exact em, fun p p0 p1 => ⟨by rw [q_gu_ne (by omega)]; exact (c1 p p0 p1).1, ?_⟩, by rw [q_gu_ne (by omega), c3, hgh_1 it, if_neg (by omega)], by rw [q_gu_ne (by omega)]; exact c4⟩, fun k z h1 h2 => q_u_n (by omega)⟩, fun z => by omega⟩
    · rw [tp_eq I it, R_272_0]
      exact ej
    · rw [← nx j it p p0 p1]
      by_cases e : p = j
      · rw [if_pos e, q_gu_eq (by omega)]
        rfl
      · rw [if_neg e, q_gu_ne (by omega)]
        exact (c1 p p0 p1).2
  · have nk : nu m 48 ≤ k := Classical.byContradiction fun q => by
      obtain ⟨p, a1, a2, a3, a4⟩ := nu_ex (m := m) (k := k) 48 k0 (by show k < nu m 48; omega)
      refine hn p a1 a2 ⟨a3, ?_⟩
      rintro (⟨b1, b2⟩ | ⟨b1, b2⟩)
      · omega
      · have := I.1 p a3
        omega
    have hh : hgh m k = hc m 3 + (k - nu m 48) := by
      unfold hgh
      split <;> omega
    have cp : cap m = nu m 48 + (48 - hc m 3) := rfl
    refine ⟨fun lt => ?_, fun eq => ?_⟩
    · have it : IsT m k (q_g s 285 35) := Or.inr ⟨nk, by omega, by omega⟩
      have g12 : q_g (q_u (q_u s 302 (q_g s 285 35) 1) 285 35 (q_g s 285 35 + 1)) 285 35 = q_g s 285 35 + 1 := by rw [q_gu_eq rfl, q_sg_id (by omega) (by omega)]
      refine ⟨q_u (q_u s 302 (q_g s 285 35) 1) 285 35 (q_g s 285 35 + 1), ?_, ⟨by rw [q_u_f (by omega), q_u_f (by omega)]; exact em, fun p p0 p1 => ⟨by rw [q_gu_ne (by omega), q_gu_ne (by omega)]; exact (c1 p p0 p1).1, ?_⟩, by rw [g12, c3, hgh_1 it, if_pos nk], by rw [q_gu_ne (by omega), q_gu_ne (by omega)]; exact c4⟩, fun k z h1 h2 => by rw [q_u_n (by omega), q_u_n (by omega)]⟩
      · rw [tp_eq I it, R_272_0]
        refine ej.trans ?_
        simp (disch := first | omega | exact q_b_01 _) only [↓reduceIte, q_bk0, q_bk1, q_bk2, q_sg_b, q_b_0, q_b_n0, q_b_1, q_b_n1, q_b_T, q_b_F, q_sg_g, q_sg_sg, q_sg_xs, q_sg_id, q_gu_ne, q_gu_eq, q_g_fne, q_g_cpe, q_w_f, q_v_f, q_u_f, q_fn_f, q_cp_f, q_sg_pg, q_sg_hc, q_lt_t, q_lt_f, q_le_t, q_le_f, q_eq_t, q_eq_f, ne_eq, eq_self, Bool.false_eq_true, Bool.true_eq_false, not_true_eq_false, not_false_eq_true, true_and, and_true, false_and, and_false, true_or, or_true, false_or, or_false, if_true, if_false, Int.reduceAdd, Int.reduceMul, Int.reduceSub, Int.reduceNeg, g12, R_272_0, R_272_8, R_272_14, R_272_17, R_272_22, R_272_25, R_272_28, R_272_35, R_272_37, R_272_43, R_272_52, R_272_57, R_272_59, R_272_69, R_272_79, C_272_19]
        rw [show q_g s 285 35 + 1 - 1 = q_g s 285 35 by omega]
      · rw [← nx _ it p p0 p1, q_gu_ne (by omega)]
        by_cases e : p = q_g s 285 35
        · rw [if_pos e, q_gu_eq (by omega)]
          rfl
        · rw [if_neg e, q_gu_ne (by omega)]
          exact (c1 p p0 p1).2
    · refine ⟨q_u s 285 36 1, ?_, by rw [q_gu_eq rfl]; rfl, fun k z h1 h2 => q_u_n (by omega)⟩
      rw [R_272_0]
      refine ej.trans ?_
      simp (disch := first | omega | exact q_b_01 _) only [↓reduceIte, q_bk0, q_bk1, q_bk2, q_sg_b, q_b_0, q_b_n0, q_b_1, q_b_n1, q_b_T, q_b_F, q_sg_g, q_sg_sg, q_sg_xs, q_sg_id, q_gu_ne, q_gu_eq, q_g_fne, q_g_cpe, q_w_f, q_v_f, q_u_f, q_fn_f, q_cp_f, q_sg_pg, q_sg_hc, q_lt_t, q_lt_f, q_le_t, q_le_f, q_eq_t, q_eq_f, ne_eq, eq_self, Bool.false_eq_true, Bool.true_eq_false, not_true_eq_false, not_false_eq_true, true_and, and_true, false_and, and_false, true_or, or_true, false_or, or_false, if_true, if_false, Int.reduceAdd, Int.reduceMul, Int.reduceSub, Int.reduceNeg, R_272_0, R_272_8, R_272_14, R_272_17, R_272_22, R_272_25, R_272_28, R_272_35, R_272_37, R_272_43, R_272_52, R_272_57, R_272_59, R_272_69, R_272_79, C_272_19]
end TKS
