/-! ONE TICK, of both: what is drawn -/
section TCK
variable {d L : Nat} {xs : Nat → Int32} {s u v : Nat → Int → Int32} {O : Nat → Int64} {c : Bool × Nat × Nat} {m : Int → Int} {b n a i : Int}
theorem drw_rg (x : Int) : 0 ≤ drw x ∧ drw x ≤ 32767 := by
  unfold drw q_and
  have key : ∀ w : BitVec 32, 0 ≤ (w &&& 32767#32).toInt ∧ (w &&& 32767#32).toInt ≤ 32767 := by
    intro w
    have h : (w &&& 32767#32).toNat ≤ 32767 := by
      rw [BitVec.toNat_and]
      exact Nat.and_le_right
    rw [BitVec.toInt_eq_toNat_of_lt (by omega)]
    omega
  exact key (q_I (q_ushr x 16)).toBitVec
theorem rmz {x n : Int} (h : 0 ≤ x) (h1 : x < 2147483648) (n0 : 0 < n) (n1 : n < 2147483648) : 0 ≤ q_rm x n ∧ q_rm x n < n := by
  unfold q_rm
  rw [q_sg_id (x := x) (by omega) (by omega), q_sg_id (x := n) (by omega) (by omega)]
  exact ⟨Int.tmod_nonneg _ h, Int.tmod_lt_of_pos _ n0⟩
theorem dr_rg (x : Int) : (0 ≤ q_rm (drw x) 100 ∧ q_rm (drw x) 100 < 100) ∧ (0 ≤ q_rm (drw x) 3 ∧ q_rm (drw x) 3 < 3) := by
  have h := drw_rg x
  exact ⟨rmz (by omega) (by omega) (by omega) (by omega), rmz (by omega) (by omega) (by omega) (by omega)⟩
theorem up_up {f : Int → Int} {j x y : Int} : up (up f j x) j y = up f j y := by
  funext k
  unfold up
  split
  · rfl
  · rfl
noncomputable def tkk (x : Int) : Int := q_rm (drw (sdn x)) 100
noncomputable def tkt (x : Int) : Int := q_rm (drw (sdn (sdn x))) 3
noncomputable def tkv (x : Int) : Int := if tkt x = 2 then 100 else q_rm (drw (sdn (sdn (sdn x)))) 100
noncomputable def tks (x : Int) : Int := if tkt x = 2 then sdn (sdn x) else sdn (sdn (sdn x))
theorem tkv_rg (x : Int) : 0 ≤ tkv x ∧ tkv x ≤ 100 := by
  have h := (dr_rg (sdn (sdn (sdn x)))).1
  unfold tkv
  split
  · omega
  · omega
theorem Inv_seed (I : Inv m b) {x : Int} : Inv (up m 7 x) b := by
  have ez : ∀ z, z ≠ 7 → up m 7 x z = m z := fun z hz => up_ne hz
  refine Inv_upd I (fun p w p0 p1 w0 w1 => ez _ (by omega)) (fun r r0 r1 hv => Or.inl ?_) (fun r r0 r1 => ?_) ?_ ?_
  · rw [ez _ (by omega)] at hv
    exact ⟨hv, ez _ (by omega), ez _ (by omega)⟩
  · rw [ez _ (by omega)]
    exact I.2.2.2 r r0 r1
  · rw [ez 8 (by omega)]
    refine ⟨I.2.1.1, I.2.1.2.1, fun k k0 k1 => ?_⟩
    rw [ez _ (by omega), ez _ (by omega)]
    exact I.2.1.2.2 k k0 k1
  · rw [ez 0 (by omega), ez 3 (by omega), ez 4 (by omega), ez 5 (by omega), ez 6 (by omega)]
    exact I.2.2.1
theorem Inv_tick (I : Inv m b) {x : Int} (x0 : 0 ≤ x) (x1 : x ≤ 9999) : Inv (up m 5 x) b := by
  have ez : ∀ z, z ≠ 5 → up m 5 x z = m z := fun z hz => up_ne hz
  have i6 := I.2.2.1
  refine Inv_upd I (fun p w p0 p1 w0 w1 => ez _ (by omega)) (fun r r0 r1 hv => Or.inl ?_) (fun r r0 r1 => ?_) ?_ ?_
  · rw [ez _ (by omega)] at hv
    exact ⟨hv, ez _ (by omega), ez _ (by omega)⟩
  · rw [ez _ (by omega)]
    exact I.2.2.2 r r0 r1
  · rw [ez 8 (by omega)]
    refine ⟨I.2.1.1, I.2.1.2.1, fun k k0 k1 => ?_⟩
    rw [ez _ (by omega), ez _ (by omega)]
    exact I.2.1.2.2 k k0 k1
  · rw [ez 0 (by omega), ez 3 (by omega), ez 4 (by omega), up_eq rfl, ez 6 (by omega)]
    omega
theorem RB_tick (H : RB m s 7) (hr : ∀ q, 0 ≤ q → q < 48 → pg m q 1 ≤ 6) (h8 : m 8 ≤ 12) {v : Int} (v0 : 0 ≤ v) (v1 : v ≤ 99999) : RB (up m 5 v) (q_u s 7 8 v) 7 := by
  refine RB_up2 H hr (fun p w p0 p1 w0 w1 => up_ne (by omega)) (fun k k0 k1 => q_u_f (by omega)) (fun r r0 r1 => ?_) ⟨?_, fun k k0 k1 => ?_⟩ ⟨?_, ?_, ?_, ?_, ?_, ?_⟩ ⟨?_, fun a w a0 a1 w0 w1 => ?_⟩
  · rw [up_ne (by omega), up_ne (by omega), q_gu_ne (by omega), q_gu_ne (by omega)]
    exact H.2.2.1 r r0 r1
  · rw [up_ne (by omega), q_gu_ne (by omega)]
    exact rb_chg H
  · rw [up_ne (by omega)] at k1
    rw [up_ne (by omega), up_ne (by omega), q_gu_ne (by omega), q_gu_ne (by omega)]
    exact ⟨rb_ck H k0 k1, rb_cv H k0 k1⟩
  · rw [up_ne (by omega), q_gu_ne (by omega)]
    exact rb_risk H
  · rw [up_ne (by omega), q_gu_ne (by omega)]
    exact rb_cost H
  · rw [up_eq rfl, q_gu_eq rfl, q_sg_id (by omega) (by omega)]
  · rw [up_ne (by omega), q_gu_ne (by omega)]
    exact rb_seed H
  · rw [up_ne (by omega), q_gu_ne (by omega)]
    exact rb_texts H
  · rw [up_ne (by omega), q_gu_ne (by omega)]
    exact rb_logn H
  · rw [q_gu_ne (by omega)]
    exact rb_lnx H
  · rw [up_ne (by omega)] at a1
    rw [up_ne (by omega), q_gu_ne (by omega), q_gu_ne (by omega)]
    exact rb_log H a0 a1 w0 w1
theorem up_pg {x p w : Int} {z : Int} (z0 : z < 281) (p0 : 0 ≤ p) (w0 : 0 ≤ w) : pg (up m z x) p w = pg m p w := up_ne (by omega)
theorem cc_dr1 (H : RB m s 7) {x : Int} (hx : m 7 = x) : EV (d) 106 0 [.ref 7] [] (q_h L xs s O c) = some (.inl (some (.int (q_I (drw (sdn x))))), q_h L xs (q_u s 7 9 (1103515245 * x + 12345)) O c) := by
  rw [cc_draw, rb_seed H, hx]
theorem RB_sd (H : RB m s 7) (I : Inv m b) {x : Int} : RB (up m 7 (sdn x)) (q_u s 7 9 (1103515245 * x + 12345)) 7 := RB_seed H (fun q q0 q1 => (inv_rows I q q0 q1).2) I.2.1.2.1
theorem cc_draws (H : RB m s 7) (I : Inv m b) : ∃ s', EV (d + 1) 193 9 [.ref 1, .int (q_I (n)), .int (q_I (a)), .int (q_I (i))] [] (q_h L xs s O c) = EV (d + 1) 193 59 [.ref 1, .int (q_I (n)), .int (q_I (a)), .int (q_I (i))] [] (q_h L xs (s') O c) ∧ RB (up m 7 (tks (m 7))) s' 7 ∧ q_g s' 265 0 = tkk (m 7) ∧ q_g s' 266 0 = tkv (m 7) ∧ ∀ k z, k ≠ 7 → k ≠ 265 → k ≠ 266 → s' k z = s k z := by
  have d1 := dr_rg (sdn (m 7))
  have d2 := dr_rg (sdn (sdn (m 7)))
  have d3 := dr_rg (sdn (sdn (sdn (m 7))))
  have w1 := cc_dr1 (d := d) (L := L) (xs := xs) (O := O) (c := c) H rfl
  have H1 := RB_sd (x := m 7) H I
  generalize hs1 : q_u s 7 9 (1103515245 * m 7 + 12345) = s1 at w1 H1
  have H1' : RB (up m 7 (sdn (m 7))) (q_u s1 265 0 (q_rm (drw (sdn (m 7))) 100)) 7 := rb_k H1 (fun k z h1 h2 => q_u_n (by omega))
  have w2 := cc_dr1 (d := d) (L := L) (xs := xs) (O := O) (c := c) H1' (up_eq rfl)
  have H2 := RB_sd (x := sdn (m 7)) H1' (Inv_seed I)
  rw [up_up] at H2
  have e1 : q_g (q_u s1 265 0 (q_rm (drw (sdn (m 7))) 100)) 265 0 = tkk (m 7) := by
    rw [q_gu_eq rfl, q_sg_id (by omega) (by omega)]
    rfl
  have fr1 : ∀ k z, k ≠ 7 → k ≠ 265 → q_u s1 265 0 (q_rm (drw (sdn (m 7))) 100) k z = s k z := fun k z h1 h2 => by rw [q_u_n (by omega), ← hs1, q_u_n (by omega)]
  generalize hs2 : q_u s1 265 0 (q_rm (drw (sdn (m 7))) 100) = s2 at w2 H2 H1' e1 fr1
  generalize hs3 : q_u s2 7 9 (1103515245 * sdn (m 7) + 12345) = s3 at w2 H2
  have e3 : q_g s3 265 0 = tkk (m 7) := by rw [← hs3, q_gu_ne (by omega), e1]
  have fr3 : ∀ k z, k ≠ 7 → k ≠ 265 → s3 k z = s k z := fun k z h1 h2 => by rw [← hs3, q_u_n (by omega), fr1 k z h1 h2]
  by_cases ht : q_rm (drw (sdn (sdn (m 7)))) 3 = 2
  · have ht' : tkt (m 7) = 2 := ht
    refine ⟨q_u s3 266 0 100, ?_, ?_, by rw [q_gu_ne (by omega), e3], ?_, fun k z h1 h2 h3 => by rw [q_u_n (by omega), fr3 k z h1 h2]⟩
    · rw [R_193_9]
      simp (disch := first | omega | exact q_b_01 _) only [↓reduceIte, q_bk0, q_bk1, q_bk2, q_sg_b, q_b_0, q_b_n0, q_b_1, q_b_n1, q_b_T, q_b_F, q_sg_g, q_sg_sg, q_sg_xs, q_sg_id, q_gu_ne, q_gu_eq, q_g_fne, q_g_cpe, q_w_f, q_v_f, q_u_f, q_fn_f, q_cp_f, q_sg_pg, q_sg_hc, q_lt_t, q_lt_f, q_le_t, q_le_f, q_eq_t, q_eq_f, ne_eq, eq_self, Bool.false_eq_true, Bool.true_eq_false, not_true_eq_false, not_false_eq_true, true_and, and_true, false_and, and_false, true_or, or_true, false_or, or_false, if_true, if_false, Int.reduceAdd, Int.reduceMul, Int.reduceSub, Int.reduceNeg, w1, hs2, w2, ht, C_193_18, R_193_21, R_193_24, R_193_25, C_193_34, R_193_37, R_193_39, R_193_43, R_193_58]
    · unfold tks
      rw [if_pos ht']
      exact rb_k H2 (fun k z h1 h2 => q_u_n (by omega))
    · unfold tkv
      rw [q_gu_eq rfl, if_pos ht']
      exact q_sg_id (by omega) (by omega)
  · have ht' : ¬ tkt (m 7) = 2 := ht
    have w3 := cc_dr1 (d := d) (L := L) (xs := xs) (O := O) (c := c) H2 (up_eq rfl)
    have H3 := RB_sd (x := sdn (sdn (m 7))) H2 (Inv_seed I)
    rw [up_up] at H3
    refine ⟨q_u (q_u s3 7 9 (1103515245 * sdn (sdn (m 7)) + 12345)) 266 0 (q_rm (drw (sdn (sdn (sdn (m 7))))) 100), ?_, ?_, by rw [q_gu_ne (by omega), q_gu_ne (by omega), e3], ?_, fun k z h1 h2 h3 => by rw [q_u_n (by omega), q_u_n (by omega), fr3 k z h1 h2]⟩
    · rw [R_193_9]
      simp (disch := first | omega | exact q_b_01 _) only [↓reduceIte, q_bk0, q_bk1, q_bk2, q_sg_b, q_b_0, q_b_n0, q_b_1, q_b_n1, q_b_T, q_b_F, q_sg_g, q_sg_sg, q_sg_xs, q_sg_id, q_gu_ne, q_gu_eq, q_g_fne, q_g_cpe, q_w_f, q_v_f, q_u_f, q_fn_f, q_cp_f, q_sg_pg, q_sg_hc, q_lt_t, q_lt_f, q_le_t, q_le_f, q_eq_t, q_eq_f, ne_eq, eq_self, Bool.false_eq_true, Bool.true_eq_false, not_true_eq_false, not_false_eq_true, true_and, and_true, false_and, and_false, true_or, or_true, false_or, or_false, if_true, if_false, Int.reduceAdd, Int.reduceMul, Int.reduceSub, Int.reduceNeg, w1, hs2, w2, w3, C_193_18, R_193_21, R_193_24, R_193_25, C_193_34, R_193_37, R_193_39, R_193_48, C_193_52, R_193_55, R_193_58]
    · unfold tks
      rw [if_neg ht']
      exact rb_k H3 (fun k z h1 h2 => q_u_n (by omega))
    · unfold tkv
      rw [q_gu_eq rfl, if_neg ht']
      exact q_sg_id (by omega) (by omega)
theorem mm_dr1 {x n : Int} (hx : q_g s 286 7 = x) (n0 : 0 < n) (n1 : n < 2147483648) : EV (d) 280 0 [.ref 285, .int (q_I (n))] [] (q_h L xs s O c) = some (.inl (some (.int (q_I (q_rm (drw (sdn x)) n)))), q_h L xs (q_u s 286 7 (1103515245 * x + 12345)) O c) := by
  rw [mm_draw n0 n1, hx]
theorem mm_draws (em : q_g s 286 = m) : ∃ s', EV (d + 1) 286 0 [.ref 285, .null] [] (q_h L xs s O c) = EV (d + 1) 286 43 [.ref 285, .null] [] (q_h L xs (s') O c) ∧ q_g s' 286 = up m 7 (tks (m 7)) ∧ q_g s' 285 19 = 1 ∧ q_g s' 292 0 = tkk (m 7) ∧ q_g s' 293 0 = tkv (m 7) ∧ ∀ k z, k ≠ 286 → k ≠ 292 → k ≠ 293 → ¬ (k = 285 ∧ z = 19) → s' k z = s k z := by
  have d1 := dr_rg (sdn (m 7))
  have d2 := dr_rg (sdn (sdn (m 7)))
  have d3 := dr_rg (sdn (sdn (sdn (m 7))))
  have x1 : q_g (q_u s 285 19 1) 286 7 = m 7 := by rw [q_gu_ne (by omega), em]
  have w1 := mm_dr1 (d := d) (L := L) (xs := xs) (O := O) (c := c) (n := 100) x1 (by omega) (by omega)
  generalize hs1 : q_u (q_u (q_u s 285 19 1) 286 7 (1103515245 * m 7 + 12345)) 292 0 (q_rm (drw (sdn (m 7))) 100) = s1
  have r1 : q_g s1 286 = up m 7 (sdn (m 7)) := by
    rw [← hs1, q_u_f (by omega), q_g_u286, q_u_f (by omega), em]
    rfl
  have x2 : q_g s1 286 7 = sdn (m 7) := by rw [r1, up_eq rfl]
  have w2 := mm_dr1 (d := d) (L := L) (xs := xs) (O := O) (c := c) (n := 3) x2 (by omega) (by omega)
  have a1 : q_g s1 285 19 = 1 := by
    rw [← hs1, q_gu_ne (by omega), q_gu_ne (by omega), q_gu_eq rfl]
    exact q_sg_id (by omega) (by omega)
  have b1 : q_g s1 292 0 = tkk (m 7) := by
    rw [← hs1, q_gu_eq rfl, q_sg_id (by omega) (by omega)]
    rfl
  have fr1 : ∀ k z, k ≠ 286 → k ≠ 292 → k ≠ 293 → ¬ (k = 285 ∧ z = 19) → s1 k z = s k z := fun k z h1 h2 h3 h4 => by rw [← hs1, q_u_n (by omega), q_u_n (by omega), q_u_n (by omega)]
  generalize hs2 : q_u s1 286 7 (1103515245 * sdn (m 7) + 12345) = s2 at w2
  have r2 : q_g s2 286 = up m 7 (sdn (sdn (m 7))) := by
    rw [← hs2, q_g_u286, r1, up_up]
    rfl
  have x3 : q_g s2 286 7 = sdn (sdn (m 7)) := by rw [r2, up_eq rfl]
  by_cases ht : q_rm (drw (sdn (sdn (m 7)))) 3 = 2
  · have ht' : tkt (m 7) = 2 := ht
    refine ⟨q_u s2 293 0 100, ?_, ?_, ?_, ?_, ?_, fun k z h1 h2 h3 h4 => ?_⟩
    · simp (disch := first | omega | exact q_b_01 _) only [↓reduceIte, q_bk0, q_bk1, q_bk2, q_sg_b, q_b_0, q_b_n0, q_b_1, q_b_n1, q_b_T, q_b_F, q_sg_g, q_sg_sg, q_sg_xs, q_sg_id, q_gu_ne, q_gu_eq, q_g_fne, q_g_cpe, q_w_f, q_v_f, q_u_f, q_fn_f, q_cp_f, q_sg_pg, q_sg_hc, q_lt_t, q_lt_f, q_le_t, q_le_f, q_eq_t, q_eq_f, ne_eq, eq_self, Bool.false_eq_true, Bool.true_eq_false, not_true_eq_false, not_false_eq_true, true_and, and_true, false_and, and_false, true_or, or_true, false_or, or_false, if_true, if_false, Int.reduceAdd, Int.reduceMul, Int.reduceSub, Int.reduceNeg, w1, hs1, w2, ht, R_286_0, R_286_5, C_286_13, R_286_16, R_286_17, C_286_24, R_286_27, R_286_31, R_286_42]
    · rw [q_u_f (by omega), r2]
      unfold tks
      rw [if_pos ht']
    · rw [q_gu_ne (by omega), ← hs2, q_gu_ne (by omega), a1]
    · rw [q_gu_ne (by omega), ← hs2, q_gu_ne (by omega), b1]
    · unfold tkv
      rw [q_gu_eq rfl, if_pos ht']
      exact q_sg_id (by omega) (by omega)
    · rw [q_u_n (by omega), ← hs2, q_u_n (by omega), fr1 k z h1 h2 h3 h4]
  · have ht' : ¬ tkt (m 7) = 2 := ht
    have w3 := mm_dr1 (d := d) (L := L) (xs := xs) (O := O) (c := c) (n := 100) x3 (by omega) (by omega)
    refine ⟨q_u (q_u s2 286 7 (1103515245 * sdn (sdn (m 7)) + 12345)) 293 0 (q_rm (drw (sdn (sdn (sdn (m 7))))) 100), ?_, ?_, ?_, ?_, ?_, fun k z h1 h2 h3 h4 => ?_⟩
    · simp (disch := first | omega | exact q_b_01 _) only [↓reduceIte, q_bk0, q_bk1, q_bk2, q_sg_b, q_b_0, q_b_n0, q_b_1, q_b_n1, q_b_T, q_b_F, q_sg_g, q_sg_sg, q_sg_xs, q_sg_id, q_gu_ne, q_gu_eq, q_g_fne, q_g_cpe, q_w_f, q_v_f, q_u_f, q_fn_f, q_cp_f, q_sg_pg, q_sg_hc, q_lt_t, q_lt_f, q_le_t, q_le_f, q_eq_t, q_eq_f, ne_eq, eq_self, Bool.false_eq_true, Bool.true_eq_false, not_true_eq_false, not_false_eq_true, true_and, and_true, false_and, and_false, true_or, or_true, false_or, or_false, if_true, if_false, Int.reduceAdd, Int.reduceMul, Int.reduceSub, Int.reduceNeg, w1, hs1, w2, w3, R_286_0, R_286_5, C_286_13, R_286_16, R_286_17, C_286_24, R_286_27, R_286_36, C_286_39, R_286_42]
    · rw [q_u_f (by omega), q_g_u286, r2, up_up]
      unfold tks
      rw [if_neg ht']
      rfl
    · rw [q_gu_ne (by omega), q_gu_ne (by omega), ← hs2, q_gu_ne (by omega), a1]
    · rw [q_gu_ne (by omega), q_gu_ne (by omega), ← hs2, q_gu_ne (by omega), b1]
    · unfold tkv
      rw [q_gu_eq rfl, if_neg ht']
      exact q_sg_id (by omega) (by omega)
    · rw [q_u_n (by omega), q_u_n (by omega), ← hs2, q_u_n (by omega), fr1 k z h1 h2 h3 h4]
end TCK
