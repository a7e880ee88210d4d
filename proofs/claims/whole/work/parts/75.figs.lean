/-! THE REFERENCE: numbers -/
section FIG
variable {d L : Nat} {xs : Nat → Int32} {s : Nat → Int → Int32} {O : Nat → Int64} {c : Bool × Nat × Nat} {T : Int → Int} {E i : Int}
theorem dig_thg {b : Int} (hb : b < E) : thg T E b = 2 ↔ 48 ≤ T b ∧ T b ≤ 57 := by
  unfold thg
  have hb' : ¬ E ≤ b := by omega
  rw [if_neg hb']
  by_cases c : 48 ≤ T b ∧ T b ≤ 57
  · have e1 : run 97 122 T E b = b := run_no (by omega)
    have e2 : b < run 48 57 T E b := by
      rw [run_yes hb c.1 c.2]
      have := run_ge 48 57 T E (b + 1)
      omega
    rw [e1, if_neg (by omega), if_pos e2]
    simp [c]
  · have e2 : run 48 57 T E b = b := run_no (fun h => c h.2)
    rw [e2]
    constructor
    · intro h
      split at h
      · omega
      · split at h <;> omega
    · intro h
      exact absurd h c
theorem mm_figures (h : TxM T E s) (E0 : 0 ≤ E) (E1 : E ≤ 400) (hr : ∀ j, 0 ≤ j → j < E → 0 ≤ T j ∧ T j ≤ 255) (ha : q_g s 285 11 = i) (i0 : 0 ≤ i) (i1 : i ≤ 1000) (hf : q_g s 285 12 = -1) {lo hi : Int} (l0 : 0 ≤ lo) (l1 : lo ≤ 999) (h0 : 0 ≤ hi) (h1 : hi ≤ 999) : ((thg T E (sk T E i) = 2 ∧ lo ≤ tel T E (sk T E i) ∧ tel T E (sk T E i) ≤ hi) → EV (d + 3) 234 0 [.ref 285, .int (q_I (lo)), .int (q_I (hi)), .null, .null] [] (q_h L xs s O c) = some (.inl (some (.int (q_I (tel T E (sk T E i))))), q_h L xs (q_u s 285 11 (tend T E (sk T E i))) O c)) ∧ (¬ (thg T E (sk T E i) = 2 ∧ lo ≤ tel T E (sk T E i) ∧ tel T E (sk T E i) ≤ hi) → ∃ v a, EV (d + 3) 234 0 [.ref 285, .int (q_I (lo)), .int (q_I (hi)), .null, .null] [] (q_h L xs s O c) = some (.inl (some (.int (q_I (v)))), q_h L xs (q_u (q_u s 285 11 a) 285 12 (sk T E i)) O c) ∧ sk T E i ≤ a ∧ a ≤ sk T E i + 4 ∧ a ≤ 1000) := by
  have g := sk_rg T E1 i0 i1
  have hst := run_stop 32 32 T E i
  generalize hb : sk T E i = b at *
  have hb2 : run 32 32 T E i = b := hb
  rw [hb2] at hst
  have rg := run_ge 48 57 T E b
  have rl := run_le (lo := 48) (hi := 57) (T := T) (E := E) (i := b)
  have rs := run_stop 48 57 T E b
  have rin : ∀ j, b ≤ j → j < run 48 57 T E b → 48 ≤ T j ∧ T j ≤ 57 := fun j j0 j1 => run_in j0 j1
  generalize hR : run 48 57 T E b = R at *
  -- how many are read
  have hQ : ∃ Q : Int, (0 ≤ Q ∧ Q ≤ 4) ∧ b + Q ≤ R ∧ (Q = 4 ∨ b + Q = R) := by
    by_cases c4 : b + 4 ≤ R
    · exact ⟨4, by omega, c4, Or.inl rfl⟩
    · exact ⟨R - b, by omega, by omega, Or.inr (by omega)⟩
  obtain ⟨Q, hQ0, hQ1, hQ2⟩ := hQ
  have lp : EV (d + 3) 234 18 [.ref 285, .int (q_I (lo)), .int (q_I (hi)), .int (q_I (b)), .int (q_I (0))] [] (q_h L xs (q_u s 285 11 b) O c) = EV (d + 3) 234 89 [.ref 285, .int (q_I (lo)), .int (q_I (hi)), .int (q_I (b)), .int (q_I (nv T b Q.toNat))] [] (q_h L xs (q_u s 285 11 (b + Q)) O c) := by
    obtain ⟨x, f1, f2⟩ := q_for (fun j x => EV (d + 3) 234 18 [.ref 285, .int (q_I (lo)), .int (q_I (hi)), .int (q_I (b)), .int (q_I (x))] [] (q_h L xs (q_u s 285 11 (b + j)) O c)) (fun j x => x = nv T b j.toNat) (lo := 0) (hi := Q) (by omega) (fun j x a1 a2 ex => by
      have hE : b + j < E := by
        by_cases cE : b ≤ E
        · have := rl cE
          omega
        · have : R = b := by rw [← hR]; exact run_no (by omega)
          omega
      have t := rin (b + j) (by omega) (by omega)
      have h' : TxM T E (q_u s 285 11 (b + j)) := TxM_u h (by omega)
      refine ⟨10 * x + T (b + j) - 48, ?_, ?_⟩
      · rw [R_234_18, ← Int.add_assoc]
        simp (disch := first | omega | exact q_b_01 _) only [↓reduceIte, q_bk0, q_bk1, q_bk2, q_sg_b, q_b_0, q_b_n0, q_b_1, q_b_n1, q_b_T, q_b_F, q_sg_g, q_sg_sg, q_sg_xs, q_sg_id, q_gu_ne, q_gu_eq, q_g_fne, q_g_cpe, q_w_f, q_v_f, q_u_f, q_fn_f, q_cp_f, q_sg_pg, q_sg_hc, q_lt_t, q_lt_f, q_le_t, q_le_f, q_eq_t, q_eq_f, ne_eq, eq_self, Bool.false_eq_true, Bool.true_eq_false, not_true_eq_false, not_false_eq_true, true_and, and_true, false_and, and_false, true_or, or_true, false_or, or_false, if_true, if_false, Int.reduceAdd, Int.reduceMul, Int.reduceSub, Int.reduceNeg, h.1, q_uu_eq, R_234_0, R_234_8, R_234_10, R_234_14, R_234_29, R_234_37, R_234_44, R_234_47, R_234_57, R_234_70, R_234_86, R_234_89, R_234_97, R_234_107, R_234_113, R_234_119, R_234_124, C_234_11, C_234_34, C_234_41, C_234_67, C_234_121, mm_letter h' E1, mm_isIn]
      · rw [show (j + 1).toNat = j.toNat + 1 by omega]
        show _ = 10 * nv T b j.toNat + T (b + (j.toNat : Nat)) - 48
        rw [← ex, show ((j.toNat : Nat) : Int) = j by omega]) (t := 0) rfl
    rw [Int.add_zero] at f1
    refine Eq.trans f1 ?_
    rw [f2, R_234_18]
    by_cases cE : b + Q < E
    · have h' : TxM T E (q_u s 285 11 (b + Q)) := TxM_u h (by omega)
      have tr := hr (b + Q) (by omega) cE
      by_cases c4 : Q = 4
      · by_cases cd : 48 ≤ T (b + Q) ∧ T (b + Q) ≤ 57
        · simp (disch := first | omega | exact q_b_01 _) only [↓reduceIte, q_bk0, q_bk1, q_bk2, q_sg_b, q_b_0, q_b_n0, q_b_1, q_b_n1, q_b_T, q_b_F, q_sg_g, q_sg_sg, q_sg_xs, q_sg_id, q_gu_ne, q_gu_eq, q_g_fne, q_g_cpe, q_w_f, q_v_f, q_u_f, q_fn_f, q_cp_f, q_sg_pg, q_sg_hc, q_lt_t, q_lt_f, q_le_t, q_le_f, q_eq_t, q_eq_f, ne_eq, eq_self, Bool.false_eq_true, Bool.true_eq_false, not_true_eq_false, not_false_eq_true, true_and, and_true, false_and, and_false, true_or, or_true, false_or, or_false, if_true, if_false, Int.reduceAdd, Int.reduceMul, Int.reduceSub, Int.reduceNeg, h.1, R_234_0, R_234_8, R_234_10, R_234_14, R_234_29, R_234_37, R_234_44, R_234_47, R_234_57, R_234_70, R_234_86, R_234_97, R_234_107, R_234_113, R_234_119, R_234_124, C_234_11, C_234_34, C_234_41, C_234_67, C_234_121, mm_letter h' E1, mm_isIn]
        · simp (disch := first | omega | exact q_b_01 _) only [↓reduceIte, q_bk0, q_bk1, q_bk2, q_sg_b, q_b_0, q_b_n0, q_b_1, q_b_n1, q_b_T, q_b_F, q_sg_g, q_sg_sg, q_sg_xs, q_sg_id, q_gu_ne, q_gu_eq, q_g_fne, q_g_cpe, q_w_f, q_v_f, q_u_f, q_fn_f, q_cp_f, q_sg_pg, q_sg_hc, q_lt_t, q_lt_f, q_le_t, q_le_f, q_eq_t, q_eq_f, ne_eq, eq_self, Bool.false_eq_true, Bool.true_eq_false, not_true_eq_false, not_false_eq_true, true_and, and_true, false_and, and_false, true_or, or_true, false_or, or_false, if_true, if_false, Int.reduceAdd, Int.reduceMul, Int.reduceSub, Int.reduceNeg, h.1, cd, R_234_0, R_234_8, R_234_10, R_234_14, R_234_29, R_234_37, R_234_44, R_234_47, R_234_57, R_234_70, R_234_86, R_234_97, R_234_107, R_234_113, R_234_119, R_234_124, C_234_11, C_234_34, C_234_41, C_234_67, C_234_121, mm_letter h' E1, mm_isIn]
      · have e : b + Q = R := by omega
        have cd : ¬ (48 ≤ T (b + Q) ∧ T (b + Q) ≤ 57) := by
          rw [e]
          rw [e] at cE
          exact fun x => rs ⟨cE, x⟩
        simp (disch := first | omega | exact q_b_01 _) only [↓reduceIte, q_bk0, q_bk1, q_bk2, q_sg_b, q_b_0, q_b_n0, q_b_1, q_b_n1, q_b_T, q_b_F, q_sg_g, q_sg_sg, q_sg_xs, q_sg_id, q_gu_ne, q_gu_eq, q_g_fne, q_g_cpe, q_w_f, q_v_f, q_u_f, q_fn_f, q_cp_f, q_sg_pg, q_sg_hc, q_lt_t, q_lt_f, q_le_t, q_le_f, q_eq_t, q_eq_f, ne_eq, eq_self, Bool.false_eq_true, Bool.true_eq_false, not_true_eq_false, not_false_eq_true, true_and, and_true, false_and, and_false, true_or, or_true, false_or, or_false, if_true, if_false, Int.reduceAdd, Int.reduceMul, Int.reduceSub, Int.reduceNeg, h.1, cd, R_234_0, R_234_8, R_234_10, R_234_14, R_234_29, R_234_37, R_234_44, R_234_47, R_234_57, R_234_70, R_234_86, R_234_97, R_234_107, R_234_113, R_234_119, R_234_124, C_234_11, C_234_34, C_234_41, C_234_67, C_234_121, mm_letter h' E1, mm_isIn]
    · simp (disch := first | omega | exact q_b_01 _) only [↓reduceIte, q_bk0, q_bk1, q_bk2, q_sg_b, q_b_0, q_b_n0, q_b_1, q_b_n1, q_b_T, q_b_F, q_sg_g, q_sg_sg, q_sg_xs, q_sg_id, q_gu_ne, q_gu_eq, q_g_fne, q_g_cpe, q_w_f, q_v_f, q_u_f, q_fn_f, q_cp_f, q_sg_pg, q_sg_hc, q_lt_t, q_lt_f, q_le_t, q_le_f, q_eq_t, q_eq_f, ne_eq, eq_self, Bool.false_eq_true, Bool.true_eq_false, not_true_eq_false, not_false_eq_true, true_and, and_true, false_and, and_false, true_or, or_true, false_or, or_false, if_true, if_false, Int.reduceAdd, Int.reduceMul, Int.reduceSub, Int.reduceNeg, h.1, R_234_0, R_234_8, R_234_10, R_234_14, R_234_29, R_234_37, R_234_44, R_234_47, R_234_57, R_234_70, R_234_86, R_234_97, R_234_107, R_234_113, R_234_119, R_234_124, C_234_11, C_234_34, C_234_41, C_234_67, C_234_121]
  have st : EV (d + 3) 234 0 [.ref 285, .int (q_I (lo)), .int (q_I (hi)), .null, .null] [] (q_h L xs s O c) = EV (d + 3) 234 89 [.ref 285, .int (q_I (lo)), .int (q_I (hi)), .int (q_I (b)), .int (q_I (nv T b Q.toNat))] [] (q_h L xs (q_u s 285 11 (b + Q)) O c) := by
    have hh := mm_here (d := d) (L := L) (xs := xs) (O := O) (c := c) h E1 hr ha i0 i1
    rw [hb] at hh
    simp (disch := first | omega | exact q_b_01 _) only [↓reduceIte, q_bk0, q_bk1, q_bk2, q_sg_b, q_b_0, q_b_n0, q_b_1, q_b_n1, q_b_T, q_b_F, q_sg_g, q_sg_sg, q_sg_xs, q_sg_id, q_gu_ne, q_gu_eq, q_g_fne, q_g_cpe, q_w_f, q_v_f, q_u_f, q_fn_f, q_cp_f, q_sg_pg, q_sg_hc, q_lt_t, q_lt_f, q_le_t, q_le_f, q_eq_t, q_eq_f, ne_eq, eq_self, Bool.false_eq_true, Bool.true_eq_false, not_true_eq_false, not_false_eq_true, true_and, and_true, false_and, and_false, true_or, or_true, false_or, or_false, if_true, if_false, Int.reduceAdd, Int.reduceMul, Int.reduceSub, Int.reduceNeg, hf, R_234_0, R_234_8, R_234_10, R_234_14, R_234_29, R_234_37, R_234_44, R_234_47, R_234_57, R_234_70, R_234_86, R_234_97, R_234_107, R_234_113, R_234_119, R_234_124, C_234_11, C_234_34, C_234_41, C_234_67, C_234_121, hh]
    exact lp
  have nr := nv_rg (T := T) (b := b) Q.toNat (fun j j0 j1 => rin j j0 (by omega))
  have n4 : nv T b Q.toNat < 10000 := by
    have p : ∀ k : Nat, k ≤ 4 → (10 : Int) ^ k ≤ 10000 := by decide
    have := p Q.toNat (by omega)
    omega
  have hf' : q_g (q_u s 285 11 (b + Q)) 285 12 = -1 := by rw [q_gu_ne (by omega), hf]
  rw [st]
  -- what the thing tells
  have tk : b < R → b < E ∧ thg T E b = 2 ∧ tel T E b = (if 3 < R - b then -1 else nv T b (R - b).toNat) ∧ tend T E b = R := by
    intro hbR
    have hbE : b < E := by
      by_cases cE : b < E
      · exact cE
      · have : R = b := by rw [← hR]; exact run_no (by omega)
        omega
    have hd := rin b (by omega) hbR
    have e1 : run 97 122 T E b = b := run_no (by omega)
    have hb' : ¬ E ≤ b := by omega
    refine ⟨hbE, (dig_thg hbE).mpr hd, ?_, ?_⟩
    · unfold tel
      rw [if_neg hb', e1, if_neg (by omega), hR, if_pos hbR]
    · unfold tend
      rw [e1, if_neg (by omega), hR, if_pos hbR]
  have tn : ¬ b < R → thg T E b ≠ 2 := by
    intro hbR e
    by_cases cE : b < E
    · have hd := (dig_thg cE).mp e
      have : b < R := by
        rw [← hR, run_yes cE hd.1 hd.2]
        have := run_ge 48 57 T E (b + 1)
        omega
      exact hbR this
    · unfold thg at e
      rw [if_pos (by omega)] at e
      omega
  by_cases hbR : b < R
  · obtain ⟨k1, k2, k3, k4⟩ := tk hbR
    by_cases c3 : 3 < R - b
    · have q4 : Q = 4 := by omega
      rw [if_pos c3] at k3
      refine ⟨fun x => absurd x.2.1 (by omega), fun _ => ⟨nv T b Q.toNat, b + Q, ?_, by omega, by omega, by omega⟩⟩
      simp (disch := first | omega | exact q_b_01 _) only [↓reduceIte, q_bk0, q_bk1, q_bk2, q_sg_b, q_b_0, q_b_n0, q_b_1, q_b_n1, q_b_T, q_b_F, q_sg_g, q_sg_sg, q_sg_xs, q_sg_id, q_gu_ne, q_gu_eq, q_g_fne, q_g_cpe, q_w_f, q_v_f, q_u_f, q_fn_f, q_cp_f, q_sg_pg, q_sg_hc, q_lt_t, q_lt_f, q_le_t, q_le_f, q_eq_t, q_eq_f, ne_eq, eq_self, Bool.false_eq_true, Bool.true_eq_false, not_true_eq_false, not_false_eq_true, true_and, and_true, false_and, and_false, true_or, or_true, false_or, or_false, if_true, if_false, Int.reduceAdd, Int.reduceMul, Int.reduceSub, Int.reduceNeg, hf', R_234_0, R_234_8, R_234_10, R_234_14, R_234_29, R_234_37, R_234_44, R_234_47, R_234_57, R_234_70, R_234_86, R_234_89, R_234_97, R_234_107, R_234_113, R_234_119, R_234_124, C_234_11, C_234_34, C_234_41, C_234_67, C_234_121, mm_wrong]
    · have qe : Q = R - b := by omega
      rw [if_neg c3, ← qe] at k3
      refine ⟨fun x => ?_, fun x => ⟨nv T b Q.toNat, b + Q, ?_, by omega, by omega, by omega⟩⟩
      · rw [k3, k4, show R = b + Q by omega]
        rw [k3] at x
        simp (disch := first | omega | exact q_b_01 _) only [↓reduceIte, q_bk0, q_bk1, q_bk2, q_sg_b, q_b_0, q_b_n0, q_b_1, q_b_n1, q_b_T, q_b_F, q_sg_g, q_sg_sg, q_sg_xs, q_sg_id, q_gu_ne, q_gu_eq, q_g_fne, q_g_cpe, q_w_f, q_v_f, q_u_f, q_fn_f, q_cp_f, q_sg_pg, q_sg_hc, q_lt_t, q_lt_f, q_le_t, q_le_f, q_eq_t, q_eq_f, ne_eq, eq_self, Bool.false_eq_true, Bool.true_eq_false, not_true_eq_false, not_false_eq_true, true_and, and_true, false_and, and_false, true_or, or_true, false_or, or_false, if_true, if_false, Int.reduceAdd, Int.reduceMul, Int.reduceSub, Int.reduceNeg, R_234_0, R_234_8, R_234_10, R_234_14, R_234_29, R_234_37, R_234_44, R_234_47, R_234_57, R_234_70, R_234_86, R_234_89, R_234_97, R_234_107, R_234_113, R_234_119, R_234_124, C_234_11, C_234_34, C_234_41, C_234_67, C_234_121]
      · rw [k3] at x
        have x' : ¬ (lo ≤ nv T b Q.toNat ∧ nv T b Q.toNat ≤ hi) := fun y => x ⟨k2, y⟩
        by_cases cl : nv T b Q.toNat < lo
        · simp (disch := first | omega | exact q_b_01 _) only [↓reduceIte, q_bk0, q_bk1, q_bk2, q_sg_b, q_b_0, q_b_n0, q_b_1, q_b_n1, q_b_T, q_b_F, q_sg_g, q_sg_sg, q_sg_xs, q_sg_id, q_gu_ne, q_gu_eq, q_g_fne, q_g_cpe, q_w_f, q_v_f, q_u_f, q_fn_f, q_cp_f, q_sg_pg, q_sg_hc, q_lt_t, q_lt_f, q_le_t, q_le_f, q_eq_t, q_eq_f, ne_eq, eq_self, Bool.false_eq_true, Bool.true_eq_false, not_true_eq_false, not_false_eq_true, true_and, and_true, false_and, and_false, true_or, or_true, false_or, or_false, if_true, if_false, Int.reduceAdd, Int.reduceMul, Int.reduceSub, Int.reduceNeg, hf', R_234_0, R_234_8, R_234_10, R_234_14, R_234_29, R_234_37, R_234_44, R_234_47, R_234_57, R_234_70, R_234_86, R_234_89, R_234_97, R_234_107, R_234_113, R_234_119, R_234_124, C_234_11, C_234_34, C_234_41, C_234_67, C_234_121, mm_wrong]
        · simp (disch := first | omega | exact q_b_01 _) only [↓reduceIte, q_bk0, q_bk1, q_bk2, q_sg_b, q_b_0, q_b_n0, q_b_1, q_b_n1, q_b_T, q_b_F, q_sg_g, q_sg_sg, q_sg_xs, q_sg_id, q_gu_ne, q_gu_eq, q_g_fne, q_g_cpe, q_w_f, q_v_f, q_u_f, q_fn_f, q_cp_f, q_sg_pg, q_sg_hc, q_lt_t, q_lt_f, q_le_t, q_le_f, q_eq_t, q_eq_f, ne_eq, eq_self, Bool.false_eq_true, Bool.true_eq_false, not_true_eq_false, not_false_eq_true, true_and, and_true, false_and, and_false, true_or, or_true, false_or, or_false, if_true, if_false, Int.reduceAdd, Int.reduceMul, Int.reduceSub, Int.reduceNeg, hf', R_234_0, R_234_8, R_234_10, R_234_14, R_234_29, R_234_37, R_234_44, R_234_47, R_234_57, R_234_70, R_234_86, R_234_89, R_234_97, R_234_107, R_234_113, R_234_119, R_234_124, C_234_11, C_234_34, C_234_41, C_234_67, C_234_121, mm_wrong]
  · have q0 : Q = 0 := by omega
    refine ⟨fun x => absurd x.1 (tn hbR), fun _ => ⟨nv T b Q.toNat, b + Q, ?_, by omega, by omega, by omega⟩⟩
    simp (disch := first | omega | exact q_b_01 _) only [↓reduceIte, q_bk0, q_bk1, q_bk2, q_sg_b, q_b_0, q_b_n0, q_b_1, q_b_n1, q_b_T, q_b_F, q_sg_g, q_sg_sg, q_sg_xs, q_sg_id, q_gu_ne, q_gu_eq, q_g_fne, q_g_cpe, q_w_f, q_v_f, q_u_f, q_fn_f, q_cp_f, q_sg_pg, q_sg_hc, q_lt_t, q_lt_f, q_le_t, q_le_f, q_eq_t, q_eq_f, ne_eq, eq_self, Bool.false_eq_true, Bool.true_eq_false, not_true_eq_false, not_false_eq_true, true_and, and_true, false_and, and_false, true_or, or_true, false_or, or_false, if_true, if_false, Int.reduceAdd, Int.reduceMul, Int.reduceSub, Int.reduceNeg, hf', R_234_0, R_234_8, R_234_10, R_234_14, R_234_29, R_234_37, R_234_44, R_234_47, R_234_57, R_234_70, R_234_86, R_234_89, R_234_97, R_234_107, R_234_113, R_234_119, R_234_124, C_234_11, C_234_34, C_234_41, C_234_67, C_234_121, mm_wrong]
end FIG
