/-! TRIALS, of both -/
section TRI
variable {d L : Nat} {xs : Nat → Int32} {s s' u v : Nat → Int → Int32} {O : Nat → Int64} {c : Bool × Nat × Nat} {m m' : Int → Int} {b b' n : Int}
theorem mm_aside : EV (d) 241 0 [.ref 285, .null] [] (q_h L xs s O c) = some (.inl none, q_h L xs (q_fn s 288 0 1049 (q_g s 286)) O c) := by
  obtain ⟨u, e1, e2⟩ := q_for (fun j u => EV (d) 241 2 [.ref 285, .int (q_I (j))] [] (q_h L xs (u) O c)) (fun j u => u = q_fn s 288 0 j (q_g s 286)) (lo := 0) (hi := 1049) (by omega) (fun j u g1 g2 eu => by
    have q1 : q_g u 286 j = q_g s 286 j := by rw [eu, q_g_fne (by omega)]
    refine ⟨q_u u 288 j (q_g s 286 j), ?_, by rw [eu, q_fn_1 _ 288 (v := q_g s 286 j) (q_g s 286) g1 rfl]⟩
    rw [R_241_2 (x1 := j)]
    simp (disch := first | omega | exact q_b_01 _) only [↓reduceIte, q_bk0, q_bk1, q_bk2, q_sg_b, q_b_0, q_b_n0, q_b_1, q_b_n1, q_b_T, q_b_F, q_sg_g, q_sg_sg, q_sg_xs, q_sg_id, q_gu_ne, q_gu_eq, q_g_fne, q_g_cpe, q_w_f, q_v_f, q_u_f, q_fn_f, q_cp_f, q_sg_pg, q_sg_hc, q_lt_t, q_lt_f, q_le_t, q_le_f, q_eq_t, q_eq_f, ne_eq, eq_self, Bool.false_eq_true, Bool.true_eq_false, not_true_eq_false, not_false_eq_true, true_and, and_true, false_and, and_false, true_or, or_true, false_or, or_false, if_true, if_false, Int.reduceAdd, Int.reduceMul, Int.reduceSub, Int.reduceNeg, q1, R_241_9, R_241_20, R_241_21]) (t := s) (by rw [q_fn_0])
  rw [R_241_0]
  refine e1.trans ?_
  rw [R_241_2, e2]
  simp (disch := first | omega | exact q_b_01 _) only [↓reduceIte, q_bk0, q_bk1, q_bk2, q_sg_b, q_b_0, q_b_n0, q_b_1, q_b_n1, q_b_T, q_b_F, q_sg_g, q_sg_sg, q_sg_xs, q_sg_id, q_gu_ne, q_gu_eq, q_g_fne, q_g_cpe, q_w_f, q_v_f, q_u_f, q_fn_f, q_cp_f, q_sg_pg, q_sg_hc, q_lt_t, q_lt_f, q_le_t, q_le_f, q_eq_t, q_eq_f, ne_eq, eq_self, Bool.false_eq_true, Bool.true_eq_false, not_true_eq_false, not_false_eq_true, true_and, and_true, false_and, and_false, true_or, or_true, false_or, or_false, if_true, if_false, Int.reduceAdd, Int.reduceMul, Int.reduceSub, Int.reduceNeg, R_241_27]
theorem mm_restore : EV (d) 242 0 [.ref 285, .null] [] (q_h L xs s O c) = some (.inl none, q_h L xs (q_fn s 286 0 1049 (q_g s 288)) O c) := by
  obtain ⟨u, e1, e2⟩ := q_for (fun j u => EV (d) 242 2 [.ref 285, .int (q_I (j))] [] (q_h L xs (u) O c)) (fun j u => u = q_fn s 286 0 j (q_g s 288)) (lo := 0) (hi := 1049) (by omega) (fun j u g1 g2 eu => by
    have q1 : q_g u 288 j = q_g s 288 j := by rw [eu, q_g_fne (by omega)]
    refine ⟨q_u u 286 j (q_g s 288 j), ?_, by rw [eu, q_fn_1 _ 286 (v := q_g s 288 j) (q_g s 288) g1 rfl]⟩
    rw [R_242_2 (x1 := j)]
    simp (disch := first | omega | exact q_b_01 _) only [↓reduceIte, q_bk0, q_bk1, q_bk2, q_sg_b, q_b_0, q_b_n0, q_b_1, q_b_n1, q_b_T, q_b_F, q_sg_g, q_sg_sg, q_sg_xs, q_sg_id, q_gu_ne, q_gu_eq, q_g_fne, q_g_cpe, q_w_f, q_v_f, q_u_f, q_fn_f, q_cp_f, q_sg_pg, q_sg_hc, q_lt_t, q_lt_f, q_le_t, q_le_f, q_eq_t, q_eq_f, ne_eq, eq_self, Bool.false_eq_true, Bool.true_eq_false, not_true_eq_false, not_false_eq_true, true_and, and_true, false_and, and_false, true_or, or_true, false_or, or_false, if_true, if_false, Int.reduceAdd, Int.reduceMul, Int.reduceSub, Int.reduceNeg, q1, R_242_9, R_242_20, R_242_21]) (t := s) (by rw [q_fn_0])
  rw [R_242_0]
  refine e1.trans ?_
  rw [R_242_2, e2]
  simp (disch := first | omega | exact q_b_01 _) only [↓reduceIte, q_bk0, q_bk1, q_bk2, q_sg_b, q_b_0, q_b_n0, q_b_1, q_b_n1, q_b_T, q_b_F, q_sg_g, q_sg_sg, q_sg_xs, q_sg_id, q_gu_ne, q_gu_eq, q_g_fne, q_g_cpe, q_w_f, q_v_f, q_u_f, q_fn_f, q_cp_f, q_sg_pg, q_sg_hc, q_lt_t, q_lt_f, q_le_t, q_le_f, q_eq_t, q_eq_f, ne_eq, eq_self, Bool.false_eq_true, Bool.true_eq_false, not_true_eq_false, not_false_eq_true, true_and, and_true, false_and, and_false, true_or, or_true, false_or, or_false, if_true, if_false, Int.reduceAdd, Int.reduceMul, Int.reduceSub, Int.reduceNeg, R_242_27]
theorem kc_same (L : Nat) (xs : Nat → Int32) (O : Nat → Int64) (c : Bool × Nat × Nat) (H : RB m u 7) (H' : RB m' u 7) (I : Inv m b) (I' : Inv m' b') : KC m (ve m 4) = KC m' (ve m' 4) := by
  have a := cc_walkOf (d := 0) (L := L) (xs := xs) (s := u) (O := O) (c := c) (v := 4) H (inv_hd I) (inv_vw I) (by omega) (by omega)
  have a' := cc_walkOf (d := 0) (L := L) (xs := xs) (s := u) (O := O) (c := c) (v := 4) H' (inv_hd I') (inv_vw I') (by omega) (by omega)
  have eh := (Prod.mk.inj (Option.some.inj (a.symm.trans a'))).2
  have W := r264_W (v := 4) (by omega) (by omega)
  have g := (wk_g2 (L := L) (xs := xs) (s := wk m (ve m 4) u (q_r264 4)) (O := O) (c := c) W).symm.trans (eh ▸ wk_g2 (L := L) (xs := xs) (s := wk m' (ve m' 4) u (q_r264 4)) (O := O) (c := c) W)
  have e := Value.int.inj (Option.some.inj g)
  have e : q_sg (q_g (wk m (ve m 4) u (q_r264 4)) (q_r264 4) 2) = q_sg (q_g (wk m' (ve m' 4) u (q_r264 4)) (q_r264 4) 2) := congrArg Int32.toInt e
  have k1 := kc_rgV (inv_vw I) (v := 4) (by omega) (by omega)
  have k2 := kc_rgV (inv_vw I') (v := 4) (by omega) (by omega)
  rw [wk_k, wk_k, q_sg_sg, q_sg_sg, q_sg_id (by omega) (by omega), q_sg_id (by omega) (by omega)] at e
  exact e
theorem hc_same (H : RB m u 7) (H' : RB m' u 7) (I : Inv m b) (I' : Inv m' b') : hc m 0 = hc m' 0 := by
  rw [← chc_eq H (inv_hd I) (by omega) (by omega), ← chc_eq H' (inv_hd I') (by omega) (by omega)]
/-- ticks, then keys and version -/
theorem both_run (n0 : 0 ≤ n) (n1 : n ≤ 60) (I : Inv m b) (hb : b + 60 < 2147483647) (H : RB m s 7) (hL : LawP m (q_g s 49) (q_g s 50) (q_g s 51) (q_g s 52) (q_g s 53)) (em : q_g s' 286 = m) : ∃ u ans ky hv, EV (d + 16) 193 0 [.ref 1, .int (q_I (n)), .null, .null] [] (q_h L xs s O c) = some (.inl (some (.int (q_I (ans)))), q_h L xs (u) O c) ∧ TkF s u ∧ (0 ≤ ky ∧ ky ≤ 100) ∧ (∀ d, ∃ u', EV (d + 15) 189 0 [.ref 1, .int (q_I (4)), .null] [] (q_h L xs (u) O c) = some (.inl (some (.ref (q_r264 4))), q_h L xs u' O c) ∧ q_g u' (q_r264 4) 2 = ky ∧ ∀ k, k < 270 ∨ 284 < k → u' k = u k) ∧ chc (q_g u 9) (q_g u 15) 0 = hv ∧ ∀ (v : Nat → Int → Int32) (d : Nat) (O : Nat → Int64) (c : Bool × Nat × Nat), q_g v 286 = m → ∃ t, EV (d + 39) 287 0 [.ref 285, .int (q_I (n)), .null, .null] [] (q_h L xs (v) O c) = some (.inl (some (.int (q_I (ans)))), q_h L xs (t) O c) ∧ KC (q_g t 286) (ve (q_g t 286) 4) = ky ∧ hc (q_g t 286) 0 = hv ∧ Inv (q_g t 286) (b + 60) ∧ (∀ z, z < 0 ∨ z = 0 ∨ z = 1 ∨ z = 2 ∨ z = 3 ∨ 1049 ≤ z → q_g t 286 z = m z) ∧ PsF v t := by
  obtain ⟨u, ans, g1, g2, g3, g4⟩ := both_ticks (d := d) (L := L) (xs := xs) (s := s) (s' := s') (O := O) (c := c) n0 n1 I hb H hL em
  obtain ⟨t0, -, t2, t3, -, -⟩ := g4 s' 0 O c em
  have kr := kc_rgV (inv_vw t3) (v := 4) (by omega) (by omega)
  refine ⟨u, ans, KC (q_g t0 286) (ve (q_g t0 286) 4), hc (q_g t0 286) 0, g1, g3, kr, fun d => ⟨_, cc_walkOf t2 (inv_hd t3) (inv_vw t3) (by omega) (by omega), by rw [wk_k, q_sg_id (by omega) (by omega)], fun k hk => wk_c (by unfold q_r264; omega)⟩, chc_eq t2 (inv_hd t3) (by omega) (by omega), fun v d O' c' ev => ?_⟩
  obtain ⟨t, h1, h2, h3, h4, h5⟩ := g4 v d O' c' ev
  exact ⟨t, h1, kc_same L xs O c h2 t2 h3 t3, hc_same h2 t2 h3 t3, h3, h4, h5⟩
theorem vo_4 : vo m 4 = true := by
  unfold vo
  rw [decide_eq_true rfl]
  rfl
theorem mm_keys4 {ky : Int} (em : q_g s 286 = m) (Hv : Vw m) (hk : KC m (ve m 4) = ky) : EV (d + 13) 294 0 [.ref 285, .int (q_I (vr m 4)), .null, .null] [] (q_h L xs s O c) = some (.inl (some (.int (q_I (ky)))), q_h L xs (s) O c) := by
  rw [mm_keysOfV em Hv (by omega) (by omega) vo_4, hk]
theorem mm_root4 (em : q_g s 286 = m) : EV (d + 2) 288 0 [.ref 285, .int (q_I (4))] [] (q_h L xs s O c) = some (.inl (some (.int (q_I (vr m 4)))), q_h L xs (s) O c) := by
  rw [mm_rootOfV (by omega) (by omega), em]
theorem op_trial (B : Big b s) (hb : b + 60 < 2147483647) {n f : Int} (v1' : -2147483648 ≤ n) (v2' : n < 2147483648) (hf : f = 0 ∨ f = 1) : Op (Big b) (fun h => EV (d + 40) 29 0 [.ref 1, .int (q_I (n)), .int (q_I (f)), .ref 312, .null] [] h) (fun h => EV (d + 40) 341 0 [.ref 285, .int (q_I (n)), .int (q_I (f)), .null, .null] [] h) L xs s O c := by
  by_cases hn : 0 ≤ n ∧ n ≤ 60
  · have I := B.1.2.1
    have h7 : isS 7 := Or.inl rfl
    have h21 : isS 21 := Or.inr (Or.inl rfl)
    have cp1 := cc_copyFrom (d := d + 36) (L := L) (xs := xs) (s := s) (O := O) (c := c) h21 h7 (by omega)
    have Hs : RB (q_g s 286) (cpS s 21 7) 21 := RB_cpS I (fun _ _ _ => rfl) B.1.1 (by omega)
    have cN : ∀ k z, k < 21 ∨ 34 < k → cpS s 21 7 k z = s k z := fun k z h => cpS_n (by omega)
    obtain ⟨u, ans, ky, hv, g1, g2, g3, g4, g5, g6⟩ := both_run (d := d + 22) (L := L) (xs := xs) (s := cpS s 21 7) (s' := s) (O := O) (c := c) (n := n) (by omega) (by omega) I hb (rb_k B.1.1 (fun k z h1 h2 => cN k z (by omega))) (LawP_sm B.1.2.2 (fun k z h1 h2 => cN k z (by omega))) rfl
    obtain ⟨u', w1, w2, w3⟩ := g4 (d + 23)
    have Hu : RB (q_g s 286) u' 21 := rb_sm Hs (fun k k0 k1 => by
      funext z
      show (u' k z).toInt = _
      rw [w3 k (by omega), g2 k z (by omega) (by omega) (by omega) (by omega) (by omega)]
      rfl)
    have Hu2 : RB (q_g s 286) u 21 := rb_sm Hs (fun k k0 k1 => by
      funext z
      show (u k z).toInt = _
      rw [g2 k z (by omega) (by omega) (by omega) (by omega) (by omega)]
      rfl)
    have oh := cc_ofTheHead (d := d + 37) (L := L) (xs := xs) (s := u) (O := O) (c := c) (w := 0) (by omega) (by omega)
    rw [g5] at oh
    -- what the class leaves
    have cls : ∀ x, (f = 0 → x = hv) → (f = 1 → x = ky) → ∃ t, EV (d + 39) 172 0 [.ref 1, .int (q_I (n)), .int (q_I (f)), .null] [] (q_h L xs s O c) = some (.inl (some (.int (q_I (x)))), q_h L xs (t) O c) ∧ RB (q_g s 286) t 7 ∧ ∀ k z, ¬ (7 ≤ k ∧ k ≤ 34) → k ≠ 54 → ¬ (241 ≤ k ∧ k ≤ 260) → k ≠ 265 → k ≠ 266 → ¬ (270 ≤ k ∧ k ≤ 284) → t k z = s k z := fun x e0 e1 => by
      rcases hf with hf | hf
      · subst hf
        rw [e0 rfl]
        have cp2 := cc_copyFrom (d := d + 36) (L := L) (xs := xs) (s := u) (O := O) (c := c) h7 h21 (by omega)
        refine ⟨cpS u 7 21, ?_, RB_cpS I (fun _ _ _ => rfl) Hu2 (by omega), fun k z k1 k2 k3 k4 k5 k6 => by rw [cpS_n (by omega), g2 k z (by omega) k2 k3 k4 k5, cN k z (by omega)]⟩
        simp (disch := first | omega | exact q_b_01 _) only [↓reduceIte, q_bk0, q_bk1, q_bk2, q_sg_b, q_b_0, q_b_n0, q_b_1, q_b_n1, q_b_T, q_b_F, q_sg_g, q_sg_sg, q_sg_xs, q_sg_id, q_gu_ne, q_gu_eq, q_g_fne, q_g_cpe, q_w_f, q_v_f, q_u_f, q_fn_f, q_cp_f, q_sg_pg, q_sg_hc, q_lt_t, q_lt_f, q_le_t, q_le_f, q_eq_t, q_eq_f, ne_eq, eq_self, Bool.false_eq_true, Bool.true_eq_false, not_true_eq_false, not_false_eq_true, true_and, and_true, false_and, and_false, true_or, or_true, false_or, or_false, if_true, if_false, Int.reduceAdd, Int.reduceMul, Int.reduceSub, Int.reduceNeg, cp1, g1, oh, cp2, R_172_0, R_172_4, R_172_10, R_172_18, R_172_29, R_172_34, R_172_39, R_172_44, R_172_47, R_172_50, R_172_61, R_172_73, C_172_26, C_172_31, C_172_41, C_172_58, C_172_70]
      · subst hf
        rw [e1 rfl]
        have cp2 := cc_copyFrom (d := d + 36) (L := L) (xs := xs) (s := u') (O := O) (c := c) h7 h21 (by omega)
        have gt := wk_g2 (L := L) (xs := xs) (s := u') (O := O) (c := c) (r264_W (v := 4) (by omega) (by omega))
        rw [w2] at gt
        refine ⟨cpS u' 7 21, ?_, RB_cpS I (fun _ _ _ => rfl) Hu (by omega), fun k z k1 k2 k3 k4 k5 k6 => by rw [cpS_n (by omega), w3 k (by omega), g2 k z (by omega) k2 k3 k4 k5, cN k z (by omega)]⟩
        simp (disch := first | omega | exact q_b_01 _) only [↓reduceIte, q_bk0, q_bk1, q_bk2, q_sg_b, q_b_0, q_b_n0, q_b_1, q_b_n1, q_b_T, q_b_F, q_sg_g, q_sg_sg, q_sg_xs, q_sg_id, q_gu_ne, q_gu_eq, q_g_fne, q_g_cpe, q_w_f, q_v_f, q_u_f, q_fn_f, q_cp_f, q_sg_pg, q_sg_hc, q_lt_t, q_lt_f, q_le_t, q_le_f, q_eq_t, q_eq_f, ne_eq, eq_self, Bool.false_eq_true, Bool.true_eq_false, not_true_eq_false, not_false_eq_true, true_and, and_true, false_and, and_false, true_or, or_true, false_or, or_false, if_true, if_false, Int.reduceAdd, Int.reduceMul, Int.reduceSub, Int.reduceNeg, cp1, g1, w1, gt, cp2, R_172_0, R_172_4, R_172_10, R_172_18, R_172_29, R_172_34, R_172_39, R_172_44, R_172_47, R_172_50, R_172_61, R_172_73, C_172_26, C_172_31, C_172_41, C_172_58, C_172_70]
    -- what the reference does
    have ref : ∀ x, (f = 0 → x = hv) → (f = 1 → x = ky) → ∀ (t : Nat → Int → Int32) (O : Nat → Int64) (c : Bool × Nat × Nat), q_g t 286 = q_g s 286 → ∃ w, EV (d + 40) 341 0 [.ref 285, .int (q_I (n)), .int (q_I (f)), .null, .null] [] (q_h L xs (t) O c) = some (.inl (some (.int (q_I (x)))), q_h L xs (w) O c) ∧ (∀ z, 0 ≤ z → q_g w 286 z = q_g s 286 z) ∧ q_g w 285 0 = 0 ∧ ∀ k z, k ≠ 286 → k ≠ 288 → ¬ (291 ≤ k ∧ k ≤ 306) → ¬ (k = 285 ∧ (z = 0 ∨ z = 9 ∨ z = 10 ∨ z = 11 ∨ z = 13 ∨ z = 15 ∨ z = 16 ∨ z = 19 ∨ z = 25 ∨ z = 26 ∨ z = 29 ∨ z = 34 ∨ z = 35 ∨ z = 36 ∨ z = 39 ∨ z = 40)) → w k z = t k z := fun x e0 e1 t O c et => by
      have g0 : q_g (q_u t 285 0 0) 285 0 = 0 := by rw [q_gu_eq rfl]; rfl
      have pa := mm_aside (d := d + 39) (L := L) (xs := xs) (s := q_u t 285 0 0) (O := O) (c := c)
      have ea : q_g (q_u t 285 0 0) 286 = q_g s 286 := by rw [q_u_f (by omega), et]
      rw [ea] at pa
      generalize hA : q_fn (q_u t 285 0 0) 288 0 1049 (q_g s 286) = A at pa
      have eA : q_g A 286 = q_g s 286 := by
        rw [← ea, ← hA]
        exact funext fun z => q_g_fne (by omega)
      have A8 : ∀ z, 0 ≤ z → z < 1049 → q_g A 288 z = q_g s 286 z := fun z z0 z1 => by
        rw [← hA, q_g_fn, if_pos ⟨rfl, z0, z1⟩]
        exact q_sg_g s 286 z
      have fA : ∀ k z, k ≠ 288 → ¬ (k = 285 ∧ z = 0) → A k z = t k z := fun k z h1 h2 => by rw [← hA, q_fn_n (by omega), q_u_n h2]
      obtain ⟨w, w1, w2, w3, w4, w5, w6⟩ := g6 A d O c eA
      have cb := mm_restore (d := d + 39) (L := L) (xs := xs) (s := w) (O := O) (c := c)
      refine ⟨q_fn w 286 0 1049 (q_g w 288), ?_, fun z z0 => ?_, ?_, fun k z h1 h2 h3 h4 => ?_⟩
      · rcases hf with hf | hf
        · subst hf
          have ve := mm_version (d := d + 37) (L := L) (xs := xs) (s := w) (O := O) (c := c)
          rw [w3] at ve
          rw [e0 rfl]
          simp (disch := first | omega | exact q_b_01 _) only [↓reduceIte, q_bk0, q_bk1, q_bk2, q_sg_b, q_b_0, q_b_n0, q_b_1, q_b_n1, q_b_T, q_b_F, q_sg_g, q_sg_sg, q_sg_xs, q_sg_id, q_gu_ne, q_gu_eq, q_g_fne, q_g_cpe, q_w_f, q_v_f, q_u_f, q_fn_f, q_cp_f, q_sg_pg, q_sg_hc, q_lt_t, q_lt_f, q_le_t, q_le_f, q_eq_t, q_eq_f, ne_eq, eq_self, Bool.false_eq_true, Bool.true_eq_false, not_true_eq_false, not_false_eq_true, true_and, and_true, false_and, and_false, true_or, or_true, false_or, or_false, if_true, if_false, Int.reduceAdd, Int.reduceMul, Int.reduceSub, Int.reduceNeg, hn, g0, pa, w1, ve, cb, R_341_0, R_341_8, R_341_11, R_341_15, R_341_16, R_341_19, R_341_26, R_341_28, R_341_32, R_341_37, R_341_42, R_341_51, R_341_54, R_341_58, R_341_64, C_341_5, C_341_29, C_341_34, C_341_45, C_341_48, C_341_55, C_341_61, mm_isIn]
        · subst hf
          have k1 := mm_root4 (d := d + 37) (L := L) (xs := xs) (s := w) (O := O) (c := c) rfl
          have k2 := mm_keys4 (d := d + 26) (L := L) (xs := xs) (s := w) (O := O) (c := c) rfl (inv_vw w4) w2
          rw [e1 rfl]
          simp (disch := first | omega | exact q_b_01 _) only [↓reduceIte, q_bk0, q_bk1, q_bk2, q_sg_b, q_b_0, q_b_n0, q_b_1, q_b_n1, q_b_T, q_b_F, q_sg_g, q_sg_sg, q_sg_xs, q_sg_id, q_gu_ne, q_gu_eq, q_g_fne, q_g_cpe, q_w_f, q_v_f, q_u_f, q_fn_f, q_cp_f, q_sg_pg, q_sg_hc, q_lt_t, q_lt_f, q_le_t, q_le_f, q_eq_t, q_eq_f, ne_eq, eq_self, Bool.false_eq_true, Bool.true_eq_false, not_true_eq_false, not_false_eq_true, true_and, and_true, false_and, and_false, true_or, or_true, false_or, or_false, if_true, if_false, Int.reduceAdd, Int.reduceMul, Int.reduceSub, Int.reduceNeg, hn, g0, pa, w1, k1, k2, cb, R_341_0, R_341_8, R_341_11, R_341_15, R_341_16, R_341_19, R_341_26, R_341_28, R_341_32, R_341_37, R_341_42, R_341_51, R_341_54, R_341_58, R_341_64, C_341_5, C_341_29, C_341_34, C_341_45, C_341_48, C_341_55, C_341_61, mm_isIn]
      · by_cases e : z < 1049
        · rw [q_g_fn, if_pos ⟨rfl, z0, e⟩, q_sg_g, ← A8 z z0 e]
          show (w 288 z).toInt = _
          rw [w6 288 z (by omega) (by omega) (by omega)]
          rfl
        · rw [q_g_fn, if_neg (by omega)]
          exact w5 z (by omega)
      · rw [q_g_fne (by omega)]
        show (w 285 0).toInt = 0
        rw [w6 285 0 (by omega) (by omega) (by omega), ← hA, q_fn_n (by omega)]
        exact g0
      · rw [q_fn_n (by omega), w6 k z h1 h3 (by omega), fA k z h2 (by omega)]
    have xx : ∃ x, (f = 0 → x = hv) ∧ (f = 1 → x = ky) := by
      rcases hf with hf | hf
      · exact ⟨hv, fun _ => rfl, fun h => by omega⟩
      · exact ⟨ky, fun h => by omega, fun _ => rfl⟩
    obtain ⟨x, x0, x1⟩ := xx
    obtain ⟨t, t1, t2, t3⟩ := cls x x0 x1
    obtain ⟨w, w1, w2, w3, w4⟩ := ref x x0 x1 t (vp_updL O 0 (q_I x).toInt64) c (funext fun z => by
      show (t 286 z).toInt = _
      rw [t3 286 z (by omega) (by omega) (by omega) (by omega) (by omega) (by omega)]
      rfl)
    refine ⟨0, x, t, w, vp_updL O 0 (q_I x).toInt64, c, ?_, w1, by omega, by omega, w3, fun _ => rfl, Or.inl rfl, ?_⟩
    · simp (disch := first | omega | exact q_b_01 _) only [↓reduceIte, q_bk0, q_bk1, q_bk2, q_sg_b, q_b_0, q_b_n0, q_b_1, q_b_n1, q_b_T, q_b_F, q_sg_g, q_sg_sg, q_sg_xs, q_sg_id, q_gu_ne, q_gu_eq, q_g_fne, q_g_cpe, q_w_f, q_v_f, q_u_f, q_fn_f, q_cp_f, q_sg_pg, q_sg_hc, q_lt_t, q_lt_f, q_le_t, q_le_f, q_eq_t, q_eq_f, ne_eq, eq_self, Bool.false_eq_true, Bool.true_eq_false, not_true_eq_false, not_false_eq_true, true_and, and_true, false_and, and_false, true_or, or_true, false_or, or_false, if_true, if_false, Int.reduceAdd, Int.reduceMul, Int.reduceSub, Int.reduceNeg, t1, R_29_0, R_29_8, R_29_10, R_29_15, C_29_5, q_lst, K_29_0]
    · refine Big_now B (Int.le_refl b) (fun k z hz h1 h2 => ?_) (fun z hz => w2 z (by omega)) ?_ (Inv_ext (fun z z0 z1 => w2 z z0) I)
      · unfold relz relc at hz
        rw [w4 k z h2 (by omega) (by omega) (by omega), t3 k z (by omega) (by omega) (by omega) (by omega) (by omega) (by omega)]
      · have Hw : RB (q_g s 286) w 7 := rb_k t2 (fun k z h1 h2 => w4 k z (by omega) (by omega) (by omega) (by omega))
        exact RB_cp I (fun z z0 z1 => w2 z z0) Hw (fun z _ _ => ⟨rfl, rfl, rfl, rfl⟩) (fun z _ _ => ⟨rfl, rfl⟩) (fun z _ _ => rfl) (fun z _ _ => ⟨rfl, rfl⟩) (fun z _ _ => ⟨rfl, rfl⟩) (fun z _ _ => rfl) (fun z _ => rfl)
  · refine ⟨1, 0, s, q_u s 285 0 1, O, q_th c, ?_, ?_, by omega, by omega, by rw [q_gu_eq rfl]; rfl, by omega, Or.inr rfl, Big_sm B (Sm_u Sm_rfl (by unfold relz relc; omega))⟩
    · by_cases h2 : n < 0
      · simp (disch := first | omega | exact q_b_01 _) only [↓reduceIte, q_bk0, q_bk1, q_bk2, q_sg_b, q_b_0, q_b_n0, q_b_1, q_b_n1, q_b_T, q_b_F, q_sg_g, q_sg_sg, q_sg_xs, q_sg_id, q_gu_ne, q_gu_eq, q_g_fne, q_g_cpe, q_w_f, q_v_f, q_u_f, q_fn_f, q_cp_f, q_sg_pg, q_sg_hc, q_lt_t, q_lt_f, q_le_t, q_le_f, q_eq_t, q_eq_f, ne_eq, eq_self, Bool.false_eq_true, Bool.true_eq_false, not_true_eq_false, not_false_eq_true, true_and, and_true, false_and, and_false, true_or, or_true, false_or, or_false, if_true, if_false, Int.reduceAdd, Int.reduceMul, Int.reduceSub, Int.reduceNeg, R_29_0, R_29_8, R_29_10, R_29_15, C_29_5, R_172_0, R_172_4, R_172_10, R_172_18, R_172_29, R_172_34, R_172_39, R_172_44, R_172_47, R_172_50, R_172_61, R_172_73, C_172_26, C_172_31, C_172_41, C_172_58, C_172_70, K_29_0]
      · simp (disch := first | omega | exact q_b_01 _) only [↓reduceIte, q_bk0, q_bk1, q_bk2, q_sg_b, q_b_0, q_b_n0, q_b_1, q_b_n1, q_b_T, q_b_F, q_sg_g, q_sg_sg, q_sg_xs, q_sg_id, q_gu_ne, q_gu_eq, q_g_fne, q_g_cpe, q_w_f, q_v_f, q_u_f, q_fn_f, q_cp_f, q_sg_pg, q_sg_hc, q_lt_t, q_lt_f, q_le_t, q_le_f, q_eq_t, q_eq_f, ne_eq, eq_self, Bool.false_eq_true, Bool.true_eq_false, not_true_eq_false, not_false_eq_true, true_and, and_true, false_and, and_false, true_or, or_true, false_or, or_false, if_true, if_false, Int.reduceAdd, Int.reduceMul, Int.reduceSub, Int.reduceNeg, R_29_0, R_29_8, R_29_10, R_29_15, C_29_5, R_172_0, R_172_4, R_172_10, R_172_18, R_172_29, R_172_34, R_172_39, R_172_44, R_172_47, R_172_50, R_172_61, R_172_73, C_172_26, C_172_31, C_172_41, C_172_58, C_172_70, K_29_0]
    · have g1 : ¬ q_g (q_u s 285 0 1) 285 0 = 0 := by
        rw [q_gu_eq rfl]
        decide
      simp (disch := first | omega | exact q_b_01 _) only [↓reduceIte, q_bk0, q_bk1, q_bk2, q_sg_b, q_b_0, q_b_n0, q_b_1, q_b_n1, q_b_T, q_b_F, q_sg_g, q_sg_sg, q_sg_xs, q_sg_id, q_gu_ne, q_gu_eq, q_g_fne, q_g_cpe, q_w_f, q_v_f, q_u_f, q_fn_f, q_cp_f, q_sg_pg, q_sg_hc, q_lt_t, q_lt_f, q_le_t, q_le_f, q_eq_t, q_eq_f, ne_eq, eq_self, Bool.false_eq_true, Bool.true_eq_false, not_true_eq_false, not_false_eq_true, true_and, and_true, false_and, and_false, true_or, or_true, false_or, or_false, if_true, if_false, Int.reduceAdd, Int.reduceMul, Int.reduceSub, Int.reduceNeg, hn, g1, R_341_0, R_341_8, R_341_11, R_341_15, R_341_16, R_341_19, R_341_26, R_341_28, R_341_32, R_341_37, R_341_42, R_341_51, R_341_54, R_341_58, R_341_64, C_341_5, C_341_29, C_341_34, C_341_45, C_341_48, C_341_55, C_341_61, mm_isIn]
end TRI
