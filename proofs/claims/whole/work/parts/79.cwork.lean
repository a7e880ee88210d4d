/-! THE CLASS: lines of work -/
def CW (w : Int × (Int → Int) × (Int → Int) × Int × Int) (s : Nat → Int → Int32) : Prop := q_g s 68 3 = w.1 ∧ 0 ≤ w.1 ∧ w.1 ≤ 12 ∧ (∀ k, 0 ≤ k → k < w.1 → q_g s 69 k = w.2.1 k ∧ q_g s 70 k = w.2.2.1 k) ∧ q_g s 68 4 = w.2.2.2.1 ∧ q_g s 68 5 = w.2.2.2.2
def FW (s t : Nat → Int → Int32) : Prop := ∀ k z, k ≠ 68 → k ≠ 69 → k ≠ 70 → ¬ (k = 2 ∧ (z = 5 ∨ z = 6)) → t k z = s k z
def PS (T : Int → Int) (E : Int) (C i : Nat) (w : Int × (Int → Int) × (Int → Int) × Int × Int) (s : Nat → Int → Int32) : Prop := TS T E C s ∧ q_g s 2 5 = i ∧ i ≤ C ∧ CW w s
section CWK
variable {d L : Nat} {xs : Nat → Int32} {s t u : Nat → Int → Int32} {O : Nat → Int64} {c : Bool × Nat × Nat} {T : Int → Int} {E : Int} {C i : Nat}
theorem FW_u {k : Nat} {z v : Int} (h : FW s t) (hk : k = 68 ∨ k = 69 ∨ k = 70 ∨ k = 2 ∧ (z = 5 ∨ z = 6)) : FW s (q_u t k z v) := fun k' z' a1 a2 a3 a4 => by
  rw [q_u_n (by omega), h k' z' a1 a2 a3 a4]
theorem FW_trans (h : FW s t) (h' : FW t u) : FW s u := fun k z a1 a2 a3 a4 => (h' k z a1 a2 a3 a4).trans (h k z a1 a2 a3 a4)
theorem bs_nn (T : Int → Int) (E : Int) : ∀ n : Nat, 0 ≤ bs T E n
  | 0 => run_ge 32 32 T E 0
  | n + 1 => by
    have ih := bs_nn T E n
    show 0 ≤ nxt T E (bs T E n)
    unfold nxt sk tend
    have a := run_ge 97 122 T E (bs T E n)
    have b := run_ge 48 57 T E (bs T E n)
    split
    · have := run_ge 32 32 T E (run 97 122 T E (bs T E n))
      omega
    · split
      · have := run_ge 32 32 T E (run 48 57 T E (bs T E n))
        omega
      · have := run_ge 32 32 T E (bs T E n + 1)
        omega
theorem cc_chEnd {va : Bool} {j : Int} (hT : TS T E C s) (hm : q_g s 2 5 = i) (hi : i ≤ C) (j0 : 0 < j) (j1 : j ≤ 12) (ht : thg T E (bs T E i) ≠ 2) : EV (d + 1) 134 9 [.ref 68, .int (q_I ((if va = true then 1 else 0))), .int (q_I (j))] [] (q_h L xs s O c) = some (.inl (some (.int (q_I (1)))), q_h L xs (s) O c) := by
  rw [R_134_9]
  simp (disch := first | omega | exact q_b_01 _) only [↓reduceIte, q_bk0, q_bk1, q_bk2, q_sg_b, q_b_0, q_b_n0, q_b_1, q_b_n1, q_b_T, q_b_F, q_sg_g, q_sg_sg, q_sg_xs, q_sg_id, q_gu_ne, q_gu_eq, q_g_fne, q_g_cpe, q_w_f, q_v_f, q_u_f, q_fn_f, q_cp_f, q_sg_pg, q_sg_hc, q_lt_t, q_lt_f, q_le_t, q_le_f, q_eq_t, q_eq_f, ne_eq, eq_self, Bool.false_eq_true, Bool.true_eq_false, not_true_eq_false, not_false_eq_true, true_and, and_true, false_and, and_false, true_or, or_true, false_or, or_false, if_true, if_false, Int.reduceAdd, Int.reduceMul, Int.reduceSub, Int.reduceNeg, ht, R_134_0, R_134_7, R_134_15, R_134_19, R_134_31, R_134_34, R_134_36, R_134_43, R_134_52, R_134_63, R_134_66, R_134_73, R_134_74, R_134_89, R_134_90, R_134_101, R_134_108, R_134_112, R_134_123, R_134_126, R_134_133, R_134_134, R_134_149, R_134_150, R_134_157, R_134_167, R_134_173, R_134_180, C_134_4, C_134_28, C_134_60, C_134_70, C_134_86, C_134_105, C_134_120, C_134_130, C_134_146, C_134_154, C_134_177, cc_isWithin hT hm hi]
theorem CW_push {w : Int × (Int → Int) × (Int → Int) × Int × Int} {t : Nat → Int → Int32} {k v : Int} (h : CW w s) (hw : w.1 < 12) (e3 : q_g t 68 3 = w.1 + 1) (e4 : q_g t 68 4 = q_g s 68 4) (e5 : q_g t 68 5 = q_g s 68 5) (e69 : ∀ z, q_g t 69 z = if z = w.1 then k else q_g s 69 z) (e70 : ∀ z, q_g t 70 z = if z = w.1 then v else q_g s 70 z) : CW (wpu w k v) t := by
  obtain ⟨h1, h2, h3, h4, h5, h6⟩ := h
  refine ⟨e3, by show 0 ≤ w.1 + 1; omega, by show w.1 + 1 ≤ 12; omega, fun z z0 z1 => ?_, e4.trans h5, e5.trans h6⟩
  have z1' : z < w.1 + 1 := z1
  rw [e69, e70]
  show (if z = w.1 then k else q_g s 69 z) = (if z = w.1 then k else w.2.1 z) ∧ (if z = w.1 then v else q_g s 70 z) = (if z = w.1 then v else w.2.2.1 z)
  by_cases e : z = w.1
  · simp [e]
  · rw [if_neg e, if_neg e, if_neg e, if_neg e]
    exact h4 z z0 (by omega)
theorem cc_chL (hr : ∀ j, 0 ≤ j → j < E → 0 ≤ T j ∧ T j ≤ 255) (va : Bool) : ∀ (f : Nat) (j : Int) (i : Nat) (w : Int × (Int → Int) × (Int → Int) × Int × Int) (s : Nat → Int → Int32), j + f = 13 → 0 ≤ j → j ≤ w.1 → PS T E C i w s → (j = 0 ∨ thg T E (bs T E i) = 2) → (∀ e, wCh T E va f i w = .inl e → ∃ t, EV (d + 1) 134 9 [.ref 68, .int (q_I ((if va = true then 1 else 0))), .int (q_I (j))] [] (q_h L xs s O c) = some (.inl (some (.int (q_I (0)))), q_h L xs (t) O c) ∧ q_g t 2 6 = e ∧ FW s t) ∧ ∀ i' w', wCh T E va f i w = .inr (i', w') → ∃ t, EV (d + 1) 134 9 [.ref 68, .int (q_I ((if va = true then 1 else 0))), .int (q_I (j))] [] (q_h L xs s O c) = some (.inl (some (.int (q_I (1)))), q_h L xs (t) O c) ∧ PS T E C i' w' t ∧ FW s t ∧ q_g t 2 6 = q_g s 2 6
  | 0, j, i, w, s, hj, j0, jn, hp, hc => by
    refine ⟨fun e he => ?_, fun i' w' he => ?_⟩
    · have he' : bs T E i = e := Sum.inl.inj he
      have b1 : q_g s 5 i = bs T E i := (hp.1.2.2.2 i hp.2.2.1).2.1
      have br := q_g_rg s 5 i
      rw [b1] at br
      refine ⟨q_u s 2 6 (bs T E i), ?_, ?_, FW_u (fun _ _ _ _ _ _ => rfl) (by omega)⟩
      · rw [R_134_9]
        simp (disch := first | omega | exact q_b_01 _) only [↓reduceIte, q_bk0, q_bk1, q_bk2, q_sg_b, q_b_0, q_b_n0, q_b_1, q_b_n1, q_b_T, q_b_F, q_sg_g, q_sg_sg, q_sg_xs, q_sg_id, q_gu_ne, q_gu_eq, q_g_fne, q_g_cpe, q_w_f, q_v_f, q_u_f, q_fn_f, q_cp_f, q_sg_pg, q_sg_hc, q_lt_t, q_lt_f, q_le_t, q_le_f, q_eq_t, q_eq_f, ne_eq, eq_self, Bool.false_eq_true, Bool.true_eq_false, not_true_eq_false, not_false_eq_true, true_and, and_true, false_and, and_false, true_or, or_true, false_or, or_false, if_true, if_false, Int.reduceAdd, Int.reduceMul, Int.reduceSub, Int.reduceNeg, R_134_0, R_134_7, R_134_15, R_134_19, R_134_31, R_134_34, R_134_36, R_134_43, R_134_52, R_134_63, R_134_66, R_134_73, R_134_74, R_134_89, R_134_90, R_134_101, R_134_108, R_134_112, R_134_123, R_134_126, R_134_133, R_134_134, R_134_149, R_134_150, R_134_157, R_134_167, R_134_173, R_134_180, C_134_4, C_134_28, C_134_60, C_134_70, C_134_86, C_134_105, C_134_120, C_134_130, C_134_146, C_134_154, C_134_177, cc_refuse hp.1 hp.2.1 hp.2.2.1]
      · rw [q_gu_eq rfl, q_sg_id br.1 br.2, he']
    · exact absurd he (by simp [wCh])
  | f + 1, j, i, w, s, hj, j0, jn, hp, hc => by
    have hp0 := hp
    obtain ⟨hT, hm, hi, hw⟩ := hp
    have hw' := hw
    obtain ⟨hw1, hw2, hw3, hw4, hw5, hw6⟩ := hw
    have b1 : q_g s 5 i = bs T E i := (hT.2.2.2 i hi).2.1
    have br := q_g_rg s 5 i
    rw [b1] at br
    have tl := tel_rg (T := T) (E := E) hr (bs_nn T E i)
    have hC := hT.1
    -- the check ahead of all but the first
    have hd : EV (d + 1) 134 9 [.ref 68, .int (q_I ((if va = true then 1 else 0))), .int (q_I (j))] [] (q_h L xs s O c) = EV (d + 1) 134 36 [.ref 68, .int (q_I ((if va = true then 1 else 0))), .int (q_I (j))] [] (q_h L xs s O c) := by
      rw [R_134_9]
      by_cases e0 : j = 0
      · simp (disch := first | omega | exact q_b_01 _) only [↓reduceIte, q_bk0, q_bk1, q_bk2, q_sg_b, q_b_0, q_b_n0, q_b_1, q_b_n1, q_b_T, q_b_F, q_sg_g, q_sg_sg, q_sg_xs, q_sg_id, q_gu_ne, q_gu_eq, q_g_fne, q_g_cpe, q_w_f, q_v_f, q_u_f, q_fn_f, q_cp_f, q_sg_pg, q_sg_hc, q_lt_t, q_lt_f, q_le_t, q_le_f, q_eq_t, q_eq_f, ne_eq, eq_self, Bool.false_eq_true, Bool.true_eq_false, not_true_eq_false, not_false_eq_true, true_and, and_true, false_and, and_false, true_or, or_true, false_or, or_false, if_true, if_false, Int.reduceAdd, Int.reduceMul, Int.reduceSub, Int.reduceNeg, e0, R_134_0, R_134_7, R_134_15, R_134_19, R_134_31, R_134_34, R_134_43, R_134_52, R_134_63, R_134_66, R_134_73, R_134_74, R_134_89, R_134_90, R_134_101, R_134_108, R_134_112, R_134_123, R_134_126, R_134_133, R_134_134, R_134_149, R_134_150, R_134_157, R_134_167, R_134_173, R_134_180, C_134_4, C_134_28, C_134_60, C_134_70, C_134_86, C_134_105, C_134_120, C_134_130, C_134_146, C_134_154, C_134_177]
      · have th := hc.resolve_left e0
        simp (disch := first | omega | exact q_b_01 _) only [↓reduceIte, q_bk0, q_bk1, q_bk2, q_sg_b, q_b_0, q_b_n0, q_b_1, q_b_n1, q_b_T, q_b_F, q_sg_g, q_sg_sg, q_sg_xs, q_sg_id, q_gu_ne, q_gu_eq, q_g_fne, q_g_cpe, q_w_f, q_v_f, q_u_f, q_fn_f, q_cp_f, q_sg_pg, q_sg_hc, q_lt_t, q_lt_f, q_le_t, q_le_f, q_eq_t, q_eq_f, ne_eq, eq_self, Bool.false_eq_true, Bool.true_eq_false, not_true_eq_false, not_false_eq_true, true_and, and_true, false_and, and_false, true_or, or_true, false_or, or_false, if_true, if_false, Int.reduceAdd, Int.reduceMul, Int.reduceSub, Int.reduceNeg, th, R_134_0, R_134_7, R_134_15, R_134_19, R_134_31, R_134_34, R_134_43, R_134_52, R_134_63, R_134_66, R_134_73, R_134_74, R_134_89, R_134_90, R_134_101, R_134_108, R_134_112, R_134_123, R_134_126, R_134_133, R_134_134, R_134_149, R_134_150, R_134_157, R_134_167, R_134_173, R_134_180, C_134_4, C_134_28, C_134_60, C_134_70, C_134_86, C_134_105, C_134_120, C_134_130, C_134_146, C_134_154, C_134_177, cc_isWithin hT hm hi]
    show (∀ e, (if w.1 < 12 ∧ thg T E (bs T E i) = 2 ∧ 0 ≤ tel T E (bs T E i) ∧ tel T E (bs T E i) ≤ 99 then _ else _) = Sum.inl e → _) ∧ ∀ i' w', (if w.1 < 12 ∧ thg T E (bs T E i) = 2 ∧ 0 ≤ tel T E (bs T E i) ∧ tel T E (bs T E i) ≤ 99 then _ else _) = Sum.inr (i', w') → _
    simp only [hd]
    by_cases cA : w.1 < 12 ∧ thg T E (bs T E i) = 2 ∧ 0 ≤ tel T E (bs T E i) ∧ tel T E (bs T E i) ≤ 99
    · rw [if_pos cA]
      have iC : i < C := by
        have : thg T E (bs T E i) ≠ 0 := by omega
        have hne : i ≠ C := fun e => this ((thg_end hT hi).mpr e)
        omega
      have cB : thg T E (bs T E i) = 2 ∧ 0 ≤ tel T E (bs T E i) ∧ tel T E (bs T E i) ≤ 99 := cA.2
      -- the key is told
      generalize hS : q_u (q_u (q_u s 69 w.1 (tel T E (bs T E i))) 70 w.1 100) 2 5 ((i + 1 : Nat) : Int) = s2
      have T2 : TS T E C s2 := by
        rw [← hS]
        exact TS_u (TS_u (TS_u hT (by omega)) (by omega)) (by omega)
      have m2 : q_g s2 2 5 = ((i + 1 : Nat) : Int) := by rw [← hS, q_gu_eq rfl, q_sg_id (by omega) (by omega)]
      have g83 : q_g s2 68 3 = w.1 := by rw [← hS, q_gu_ne (by omega), q_gu_ne (by omega), q_gu_ne (by omega), hw1]
      have g83a : q_g (q_u s 69 w.1 (tel T E (bs T E i))) 68 3 = w.1 := by rw [q_gu_ne (by omega), hw1]
      have F2 : FW s s2 := by
        rw [← hS]
        exact FW_u (FW_u (FW_u (fun _ _ _ _ _ _ => rfl) (by omega)) (by omega)) (by omega)
      have cs := cc_step (d := d) (L := L) (xs := xs) (s := q_u (q_u s 69 w.1 (tel T E (bs T E i))) 70 w.1 100) (O := O) (c := c) (T := T) (E := E) (C := C) (i := i) (TS_u (TS_u hT (by omega)) (by omega)) (by rw [q_gu_ne (by omega), q_gu_ne (by omega), hm]) iC
      rw [hS] at cs
      have st : EV (d + 1) 134 36 [.ref 68, .int (q_I ((if va = true then 1 else 0))), .int (q_I (j))] [] (q_h L xs s O c) = EV (d + 1) 134 108 [.ref 68, .int (q_I ((if va = true then 1 else 0))), .int (q_I (j))] [] (q_h L xs (s2) O c) := by
        simp (disch := first | omega | exact q_b_01 _) only [↓reduceIte, q_bk0, q_bk1, q_bk2, q_sg_b, q_b_0, q_b_n0, q_b_1, q_b_n1, q_b_T, q_b_F, q_sg_g, q_sg_sg, q_sg_xs, q_sg_id, q_gu_ne, q_gu_eq, q_g_fne, q_g_cpe, q_w_f, q_v_f, q_u_f, q_fn_f, q_cp_f, q_sg_pg, q_sg_hc, q_lt_t, q_lt_f, q_le_t, q_le_f, q_eq_t, q_eq_f, ne_eq, eq_self, Bool.false_eq_true, Bool.true_eq_false, not_true_eq_false, not_false_eq_true, true_and, and_true, false_and, and_false, true_or, or_true, false_or, or_false, if_true, if_false, Int.reduceAdd, Int.reduceMul, Int.reduceSub, Int.reduceNeg, hw1, q_bt cB, g83a, R_134_0, R_134_7, R_134_15, R_134_19, R_134_31, R_134_34, R_134_36, R_134_43, R_134_52, R_134_63, R_134_66, R_134_73, R_134_74, R_134_89, R_134_90, R_134_101, R_134_112, R_134_123, R_134_126, R_134_133, R_134_134, R_134_149, R_134_150, R_134_157, R_134_167, R_134_173, R_134_180, C_134_4, C_134_28, C_134_60, C_134_70, C_134_86, C_134_105, C_134_120, C_134_130, C_134_146, C_134_154, C_134_177, cc_isWithin hT hm hi, cc_told hT hm hi, cs]
      rw [st]
      have j11 : j + 1 ≤ 12 := by omega
      have b2 : q_g s2 5 ((i + 1 : Nat) : Int) = bs T E (i + 1) := (T2.2.2.2 (i + 1) (by omega)).2.1
      have br2 := q_g_rg s2 5 ((i + 1 : Nat) : Int)
      rw [b2] at br2
      cases va with
      | false =>
        rw [if_neg (by decide)]
        have g : EV (d + 1) 134 108 [.ref 68, .int (q_I ((if false = true then 1 else 0))), .int (q_I (j))] [] (q_h L xs (s2) O c) = EV (d + 1) 134 9 [.ref 68, .int (q_I ((if false = true then 1 else 0))), .int (q_I (j + 1))] [] (q_h L xs (q_u s2 68 3 (w.1 + 1)) O c) := by
          simp (disch := first | omega | exact q_b_01 _) only [↓reduceIte, q_bk0, q_bk1, q_bk2, q_sg_b, q_b_0, q_b_n0, q_b_1, q_b_n1, q_b_T, q_b_F, q_sg_g, q_sg_sg, q_sg_xs, q_sg_id, q_gu_ne, q_gu_eq, q_g_fne, q_g_cpe, q_w_f, q_v_f, q_u_f, q_fn_f, q_cp_f, q_sg_pg, q_sg_hc, q_lt_t, q_lt_f, q_le_t, q_le_f, q_eq_t, q_eq_f, ne_eq, eq_self, Bool.false_eq_true, Bool.true_eq_false, not_true_eq_false, not_false_eq_true, true_and, and_true, false_and, and_false, true_or, or_true, false_or, or_false, if_true, if_false, Int.reduceAdd, Int.reduceMul, Int.reduceSub, Int.reduceNeg, g83, R_134_0, R_134_7, R_134_15, R_134_19, R_134_31, R_134_34, R_134_36, R_134_43, R_134_52, R_134_63, R_134_66, R_134_73, R_134_74, R_134_89, R_134_90, R_134_101, R_134_108, R_134_112, R_134_123, R_134_126, R_134_133, R_134_134, R_134_149, R_134_150, R_134_157, R_134_167, R_134_173, R_134_180, C_134_4, C_134_28, C_134_60, C_134_70, C_134_86, C_134_105, C_134_120, C_134_130, C_134_146, C_134_154, C_134_177]
        have P3 : PS T E C (i + 1) (wpu w (tel T E (bs T E i)) 100) (q_u s2 68 3 (w.1 + 1)) := by
          refine ⟨TS_u T2 (by omega), by rw [q_gu_ne (by omega), m2], by omega, CW_push hw' cA.1 ?_ ?_ ?_ (fun z => ?_) (fun z => ?_)⟩
          · rw [q_gu_eq rfl, q_sg_id (by omega) (by omega)]
          · rw [q_gu_ne (by omega), ← hS, q_gu_ne (by omega), q_gu_ne (by omega), q_gu_ne (by omega)]
          · rw [q_gu_ne (by omega), ← hS, q_gu_ne (by omega), q_gu_ne (by omega), q_gu_ne (by omega)]
          · rw [q_gu_ne (by omega), ← hS, q_gu_ne (by omega), q_gu_ne (by omega), q_gu]
            by_cases e : z = w.1
            · rw [if_pos ⟨rfl, e⟩, if_pos e, q_sg_id (by omega) (by omega)]
            · rw [if_neg (fun x => e x.2), if_neg e]
          · rw [q_gu_ne (by omega), ← hS, q_gu_ne (by omega), q_gu]
            by_cases e : z = w.1
            · rw [if_pos ⟨rfl, e⟩, if_pos e]
              rfl
            · rw [if_neg (fun x => e x.2), if_neg e, q_gu_ne (by omega)]
        have F3 : FW s (q_u s2 68 3 (w.1 + 1)) := FW_u F2 (by omega)
        have g6 : q_g (q_u s2 68 3 (w.1 + 1)) 2 6 = q_g s 2 6 := by rw [q_gu_ne (by omega), ← hS, q_gu_ne (by omega), q_gu_ne (by omega), q_gu_ne (by omega)]
        rw [g]
        by_cases th : thg T E (bs T E (i + 1)) = 2
        · rw [if_pos th]
          obtain ⟨k1, k2⟩ := cc_chL hr false f (j + 1) (i + 1) (wpu w (tel T E (bs T E i)) 100) (q_u s2 68 3 (w.1 + 1)) (by omega) (by omega) (by show j + 1 ≤ w.1 + 1; omega) P3 (Or.inr th)
          refine ⟨fun e he => ?_, fun i' w' he => ?_⟩
          · obtain ⟨t, q1, q2, q3⟩ := k1 e he
            exact ⟨t, q1, q2, FW_trans F3 q3⟩
          · obtain ⟨t, q1, q2, q3, q4⟩ := k2 i' w' he
            exact ⟨t, q1, q2, FW_trans F3 q3, q4.trans g6⟩
        · rw [if_neg th]
          refine ⟨fun e he => by simp at he, fun i' w' he => ?_⟩
          have he' := Sum.inr.inj he
          have ei : i + 1 = i' := congrArg Prod.fst he'
          have ew : wpu w (tel T E (bs T E i)) 100 = w' := congrArg Prod.snd he'
          subst ei
          subst ew
          exact ⟨_, cc_chEnd P3.1 P3.2.1 P3.2.2.1 (by omega) j11 th, P3, F3, g6⟩
      | true =>
        rw [if_pos rfl]
        have tl2 := tel_rg (T := T) (E := E) hr (bs_nn T E (i + 1))
        by_cases cV : thg T E (bs T E (i + 1)) = 2 ∧ 0 ≤ tel T E (bs T E (i + 1)) ∧ tel T E (bs T E (i + 1)) ≤ 99
        · rw [if_pos cV]
          have iC2 : i + 1 < C := by
            have : thg T E (bs T E (i + 1)) ≠ 0 := by omega
            have hne : i + 1 ≠ C := fun e => this ((thg_end T2 (by omega)).mpr e)
            omega
          generalize hS3 : q_u (q_u s2 70 w.1 (tel T E (bs T E (i + 1)))) 2 5 ((i + 1 + 1 : Nat) : Int) = s3
          have T3 : TS T E C s3 := by
            rw [← hS3]
            exact TS_u (TS_u T2 (by omega)) (by omega)
          have cs3 := cc_step (d := d) (L := L) (xs := xs) (s := q_u s2 70 w.1 (tel T E (bs T E (i + 1)))) (O := O) (c := c) (T := T) (E := E) (C := C) (i := i + 1) (TS_u T2 (by omega)) (by rw [q_gu_ne (by omega), m2]) iC2
          rw [hS3] at cs3
          have g833 : q_g s3 68 3 = w.1 := by rw [← hS3, q_gu_ne (by omega), q_gu_ne (by omega), g83]
          have g : EV (d + 1) 134 108 [.ref 68, .int (q_I ((if true = true then 1 else 0))), .int (q_I (j))] [] (q_h L xs (s2) O c) = EV (d + 1) 134 9 [.ref 68, .int (q_I ((if true = true then 1 else 0))), .int (q_I (j + 1))] [] (q_h L xs (q_u s3 68 3 (w.1 + 1)) O c) := by
            simp (disch := first | omega | exact q_b_01 _) only [↓reduceIte, q_bk0, q_bk1, q_bk2, q_sg_b, q_b_0, q_b_n0, q_b_1, q_b_n1, q_b_T, q_b_F, q_sg_g, q_sg_sg, q_sg_xs, q_sg_id, q_gu_ne, q_gu_eq, q_g_fne, q_g_cpe, q_w_f, q_v_f, q_u_f, q_fn_f, q_cp_f, q_sg_pg, q_sg_hc, q_lt_t, q_lt_f, q_le_t, q_le_f, q_eq_t, q_eq_f, ne_eq, eq_self, Bool.false_eq_true, Bool.true_eq_false, not_true_eq_false, not_false_eq_true, true_and, and_true, false_and, and_false, true_or, or_true, false_or, or_false, if_true, if_false, Int.reduceAdd, Int.reduceMul, Int.reduceSub, Int.reduceNeg, g83, q_bt cV, g833, R_134_0, R_134_7, R_134_15, R_134_19, R_134_31, R_134_34, R_134_36, R_134_43, R_134_52, R_134_63, R_134_66, R_134_73, R_134_74, R_134_89, R_134_90, R_134_101, R_134_108, R_134_112, R_134_123, R_134_126, R_134_133, R_134_134, R_134_149, R_134_150, R_134_157, R_134_167, R_134_173, R_134_180, C_134_4, C_134_28, C_134_60, C_134_70, C_134_86, C_134_105, C_134_120, C_134_130, C_134_146, C_134_154, C_134_177, cc_isWithin T2 m2 (show i + 1 ≤ C by omega), cc_told T2 m2 (show i + 1 ≤ C by omega), cs3]
          have P3 : PS T E C (i + 2) (wpu w (tel T E (bs T E i)) (tel T E (bs T E (i + 1)))) (q_u s3 68 3 (w.1 + 1)) := by
            refine ⟨TS_u T3 (by omega), by rw [q_gu_ne (by omega), ← hS3, q_gu_eq rfl, q_sg_id (by omega) (by omega)], by omega, CW_push hw' cA.1 ?_ ?_ ?_ (fun z => ?_) (fun z => ?_)⟩
            · rw [q_gu_eq rfl, q_sg_id (by omega) (by omega)]
            · rw [q_gu_ne (by omega), ← hS3, q_gu_ne (by omega), q_gu_ne (by omega), ← hS, q_gu_ne (by omega), q_gu_ne (by omega), q_gu_ne (by omega)]
            · rw [q_gu_ne (by omega), ← hS3, q_gu_ne (by omega), q_gu_ne (by omega), ← hS, q_gu_ne (by omega), q_gu_ne (by omega), q_gu_ne (by omega)]
            · rw [q_gu_ne (by omega), ← hS3, q_gu_ne (by omega), q_gu_ne (by omega), ← hS, q_gu_ne (by omega), q_gu_ne (by omega), q_gu]
              by_cases e : z = w.1
              · rw [if_pos ⟨rfl, e⟩, if_pos e, q_sg_id (by omega) (by omega)]
              · rw [if_neg (fun x => e x.2), if_neg e]
            · rw [q_gu_ne (by omega), ← hS3, q_gu_ne (by omega), q_gu]
              by_cases e : z = w.1
              · rw [if_pos ⟨rfl, e⟩, if_pos e, q_sg_id (by omega) (by omega)]
              · rw [if_neg (fun x => e x.2), if_neg e, ← hS, q_gu_ne (by omega), q_gu_ne (by omega), q_gu_ne (by omega)]
          have F3 : FW s (q_u s3 68 3 (w.1 + 1)) := by
            refine FW_u ?_ (by omega)
            rw [← hS3]
            exact FW_u (FW_u F2 (by omega)) (by omega)
          have g6 : q_g (q_u s3 68 3 (w.1 + 1)) 2 6 = q_g s 2 6 := by rw [q_gu_ne (by omega), ← hS3, q_gu_ne (by omega), q_gu_ne (by omega), ← hS, q_gu_ne (by omega), q_gu_ne (by omega), q_gu_ne (by omega)]
          rw [g]
          by_cases th : thg T E (bs T E (i + 2)) = 2
          · rw [if_pos th]
            obtain ⟨k1, k2⟩ := cc_chL hr true f (j + 1) (i + 2) (wpu w (tel T E (bs T E i)) (tel T E (bs T E (i + 1)))) (q_u s3 68 3 (w.1 + 1)) (by omega) (by omega) (by show j + 1 ≤ w.1 + 1; omega) P3 (Or.inr th)
            refine ⟨fun e he => ?_, fun i' w' he => ?_⟩
            · obtain ⟨t, q1, q2, q3⟩ := k1 e he
              exact ⟨t, q1, q2, FW_trans F3 q3⟩
            · obtain ⟨t, q1, q2, q3, q4⟩ := k2 i' w' he
              exact ⟨t, q1, q2, FW_trans F3 q3, q4.trans g6⟩
          · rw [if_neg th]
            refine ⟨fun e he => by simp at he, fun i' w' he => ?_⟩
            have he' := Sum.inr.inj he
            have ei : i + 2 = i' := congrArg Prod.fst he'
            have ew : wpu w (tel T E (bs T E i)) (tel T E (bs T E (i + 1))) = w' := congrArg Prod.snd he'
            subst ei
            subst ew
            exact ⟨_, cc_chEnd P3.1 P3.2.1 P3.2.2.1 (by omega) j11 th, P3, F3, g6⟩
        · rw [if_neg cV]
          refine ⟨fun e he => ?_, fun i' w' he => by simp at he⟩
          have he' : bs T E (i + 1) = e := Sum.inl.inj he
          refine ⟨q_u s2 2 6 (bs T E (i + 1)), ?_, ?_, FW_u F2 (by omega)⟩
          · simp (disch := first | omega | exact q_b_01 _) only [↓reduceIte, q_bk0, q_bk1, q_bk2, q_sg_b, q_b_0, q_b_n0, q_b_1, q_b_n1, q_b_T, q_b_F, q_sg_g, q_sg_sg, q_sg_xs, q_sg_id, q_gu_ne, q_gu_eq, q_g_fne, q_g_cpe, q_w_f, q_v_f, q_u_f, q_fn_f, q_cp_f, q_sg_pg, q_sg_hc, q_lt_t, q_lt_f, q_le_t, q_le_f, q_eq_t, q_eq_f, ne_eq, eq_self, Bool.false_eq_true, Bool.true_eq_false, not_true_eq_false, not_false_eq_true, true_and, and_true, false_and, and_false, true_or, or_true, false_or, or_false, if_true, if_false, Int.reduceAdd, Int.reduceMul, Int.reduceSub, Int.reduceNeg, q_bf cV, R_134_0, R_134_7, R_134_15, R_134_19, R_134_31, R_134_34, R_134_36, R_134_43, R_134_52, R_134_63, R_134_66, R_134_73, R_134_74, R_134_89, R_134_90, R_134_101, R_134_108, R_134_112, R_134_123, R_134_126, R_134_133, R_134_134, R_134_149, R_134_150, R_134_157, R_134_167, R_134_173, R_134_180, C_134_4, C_134_28, C_134_60, C_134_70, C_134_86, C_134_105, C_134_120, C_134_130, C_134_146, C_134_154, C_134_177, cc_isWithin T2 m2 (show i + 1 ≤ C by omega), cc_refuse T2 m2 (show i + 1 ≤ C by omega)]
          · rw [q_gu_eq rfl, q_sg_id br2.1 br2.2, he']
    · rw [if_neg cA]
      refine ⟨fun e he => ?_, fun i' w' he => by simp at he⟩
      have he' : bs T E i = e := Sum.inl.inj he
      refine ⟨q_u s 2 6 (bs T E i), ?_, ?_, FW_u (fun _ _ _ _ _ _ => rfl) (by omega)⟩
      · by_cases c12 : w.1 < 12
        · have cB : ¬ (thg T E (bs T E i) = 2 ∧ 0 ≤ tel T E (bs T E i) ∧ tel T E (bs T E i) ≤ 99) := fun x => cA ⟨c12, x⟩
          simp (disch := first | omega | exact q_b_01 _) only [↓reduceIte, q_bk0, q_bk1, q_bk2, q_sg_b, q_b_0, q_b_n0, q_b_1, q_b_n1, q_b_T, q_b_F, q_sg_g, q_sg_sg, q_sg_xs, q_sg_id, q_gu_ne, q_gu_eq, q_g_fne, q_g_cpe, q_w_f, q_v_f, q_u_f, q_fn_f, q_cp_f, q_sg_pg, q_sg_hc, q_lt_t, q_lt_f, q_le_t, q_le_f, q_eq_t, q_eq_f, ne_eq, eq_self, Bool.false_eq_true, Bool.true_eq_false, not_true_eq_false, not_false_eq_true, true_and, and_true, false_and, and_false, true_or, or_true, false_or, or_false, if_true, if_false, Int.reduceAdd, Int.reduceMul, Int.reduceSub, Int.reduceNeg, hw1, q_bf cB, R_134_0, R_134_7, R_134_15, R_134_19, R_134_31, R_134_34, R_134_36, R_134_43, R_134_52, R_134_63, R_134_66, R_134_73, R_134_74, R_134_89, R_134_90, R_134_101, R_134_108, R_134_112, R_134_123, R_134_126, R_134_133, R_134_134, R_134_149, R_134_150, R_134_157, R_134_167, R_134_173, R_134_180, C_134_4, C_134_28, C_134_60, C_134_70, C_134_86, C_134_105, C_134_120, C_134_130, C_134_146, C_134_154, C_134_177, cc_isWithin hT hm hi, cc_refuse hT hm hi]
        · simp (disch := first | omega | exact q_b_01 _) only [↓reduceIte, q_bk0, q_bk1, q_bk2, q_sg_b, q_b_0, q_b_n0, q_b_1, q_b_n1, q_b_T, q_b_F, q_sg_g, q_sg_sg, q_sg_xs, q_sg_id, q_gu_ne, q_gu_eq, q_g_fne, q_g_cpe, q_w_f, q_v_f, q_u_f, q_fn_f, q_cp_f, q_sg_pg, q_sg_hc, q_lt_t, q_lt_f, q_le_t, q_le_f, q_eq_t, q_eq_f, ne_eq, eq_self, Bool.false_eq_true, Bool.true_eq_false, not_true_eq_false, not_false_eq_true, true_and, and_true, false_and, and_false, true_or, or_true, false_or, or_false, if_true, if_false, Int.reduceAdd, Int.reduceMul, Int.reduceSub, Int.reduceNeg, hw1, R_134_0, R_134_7, R_134_15, R_134_19, R_134_31, R_134_34, R_134_36, R_134_43, R_134_52, R_134_63, R_134_66, R_134_73, R_134_74, R_134_89, R_134_90, R_134_101, R_134_108, R_134_112, R_134_123, R_134_126, R_134_133, R_134_134, R_134_149, R_134_150, R_134_157, R_134_167, R_134_173, R_134_180, C_134_4, C_134_28, C_134_60, C_134_70, C_134_86, C_134_105, C_134_120, C_134_130, C_134_146, C_134_154, C_134_177, cc_refuse hT hm hi]
      · rw [q_gu_eq rfl, q_sg_id br.1 br.2, he']
end CWK
