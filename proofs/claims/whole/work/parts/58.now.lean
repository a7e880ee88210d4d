/-! what is may change; the history stays, or goes -/
section NW
variable {d L : Nat} {xs : Nat → Int32} {s u : Nat → Int → Int32} {O : Nat → Int64} {c : Bool × Nat × Nat} {b b' : Int}
theorem Big_now (B : Big b s) (hb : b ≤ b') (hu : ∀ k z, relz k z → ¬ (7 ≤ k ∧ k ≤ 20) → k ≠ 286 → u k z = s k z) (hm : ∀ z, z = 1 ∨ z = 2 ∨ 1049 ≤ z → q_g u 286 z = q_g s 286 z) (hR : RB (q_g u 286) u 7) (hI : Inv (q_g u 286) b') : Big b' u := by
  obtain ⟨⟨a1, a2, a3⟩, a4, a5, ⟨h6, A0, A1, n0, n1, hB⟩, a7⟩ := B
  have cg : ∀ k z, relz k z → ¬ (7 ≤ k ∧ k ≤ 20) → k ≠ 286 → q_g u k z = q_g s k z := fun k z c1 c2 c3 => by
    show (u k z).toInt = _
    rw [hu k z c1 c2 c3]
    rfl
  have cf : ∀ k, relc k → ¬ (7 ≤ k ∧ k ≤ 20) → k ≠ 286 → q_g u k = q_g s k := fun k c1 c2 c3 => funext fun z => cg k z (Or.inl c1) c2 c3
  have fb : blk u = blk s := by
    funext j z
    exact cg 289 _ (by unfold relz relc; omega) (by omega) (by omega)
  have fh : hst u = hst s := by
    funext j
    unfold hst
    rw [cf 71 (by unfold relc; omega) (by omega) (by omega)]
  refine ⟨⟨hR, hI, ?_⟩, ?_, ?_, ?_, ?_⟩
  · rw [cf 49 (by unfold relc; omega) (by omega) (by omega), cf 50 (by unfold relc; omega) (by omega) (by omega), cf 51 (by unfold relc; omega) (by omega) (by omega), cf 52 (by unfold relc; omega) (by omega) (by omega), cf 53 (by unfold relc; omega) (by omega) (by omega)]
    exact LawP_ext a3 hm
  · rw [cg 285 8 (by unfold relz relc; omega) (by omega) (by omega), cg 2 1 (by unfold relz relc; omega) (by omega) (by omega), cf 3 (by unfold relc; omega) (by omega) (by omega), cf 290 (by unfold relc; omega) (by omega) (by omega)]
    exact a4
  · rw [cg 285 12 (by unfold relz relc; omega) (by omega) (by omega), cg 2 6 (by unfold relz relc; omega) (by omega) (by omega)]
    exact a5
  · rw [cg 285 6 (by unfold relz relc; omega) (by omega) (by omega), cf 71 (by unfold relc; omega) (by omega) (by omega), fb, fh, hm 1 (by omega), hm 2 (by omega)]
    refine ⟨h6, A0, A1, n0, n1, fun j h1 h2 => ?_⟩
    obtain ⟨d1, d2, d3, d4⟩ := hB j h1 h2
    have := hst_rg s j
    exact ⟨rb_sm d1 (fun k h1 h2 => cf k (by unfold relc; omega) (by omega) (by omega)), Inv_mono d2 hb, d3, d4⟩
  · rw [cg 285 3 (by unfold relz relc; omega) (by omega) (by omega), cg 1 4 (by unfold relz relc; omega) (by omega) (by omega), cf 287 (by unfold relc; omega) (by omega) (by omega), cf 61 (by unfold relc; omega) (by omega) (by omega), cf 62 (by unfold relc; omega) (by omega) (by omega), cf 63 (by unfold relc; omega) (by omega) (by omega), cf 64 (by unfold relc; omega) (by omega) (by omega), cf 65 (by unfold relc; omega) (by omega) (by omega)]
    obtain ⟨c1, c2, c3⟩ := a7
    refine ⟨c1, c2, fun h1 => ?_⟩
    obtain ⟨d1, d2, d3⟩ := c3 h1
    exact ⟨rb_sm d1 (fun k h1 h2 => cf k (by unfold relc; omega) (by omega) (by omega)), Inv_mono d2 hb, d3⟩
/-- all acts forgotten; the law as it then is -/
theorem Big_clr (B : Big b s) (hb : b ≤ b') (hu : ∀ k z, relz k z → ¬ (7 ≤ k ∧ k ≤ 20) → ¬ (49 ≤ k ∧ k ≤ 53) → k ≠ 286 → ¬ (k = 71 ∧ z = 1) → ¬ (k = 285 ∧ z = 6) → u k z = s k z) (h1 : q_g u 71 1 = 0) (h2 : q_g u 285 6 = 0) (hL : LawP (q_g u 286) (q_g u 49) (q_g u 50) (q_g u 51) (q_g u 52) (q_g u 53)) (hR : RB (q_g u 286) u 7) (hI : Inv (q_g u 286) b') : Big b' u := by
  obtain ⟨⟨a1, a2, a3⟩, a4, a5, ⟨h6, A0, A1, n0, n1, hB⟩, a7⟩ := B
  have cg : ∀ k z, relz k z → ¬ (7 ≤ k ∧ k ≤ 20) → ¬ (49 ≤ k ∧ k ≤ 53) → k ≠ 286 → ¬ (k = 71 ∧ z = 1) → ¬ (k = 285 ∧ z = 6) → q_g u k z = q_g s k z := fun k z c1 c2 c3 c4 c5 c6 => by
    show (u k z).toInt = _
    rw [hu k z c1 c2 c3 c4 c5 c6]
    rfl
  have cf : ∀ k, relc k → ¬ (7 ≤ k ∧ k ≤ 20) → ¬ (49 ≤ k ∧ k ≤ 53) → k ≠ 286 → k ≠ 71 → k ≠ 285 → q_g u k = q_g s k := fun k c1 c2 c3 c4 c5 c6 => funext fun z => cg k z (Or.inl c1) c2 c3 c4 (by omega) (by omega)
  refine ⟨⟨hR, hI, hL⟩, ?_, ?_, ?_, ?_⟩
  · rw [cg 285 8 (by unfold relz relc; omega) (by omega) (by omega) (by omega) (by omega) (by omega), cg 2 1 (by unfold relz relc; omega) (by omega) (by omega) (by omega) (by omega) (by omega), cf 3 (by unfold relc; omega) (by omega) (by omega) (by omega) (by omega) (by omega), cf 290 (by unfold relc; omega) (by omega) (by omega) (by omega) (by omega) (by omega)]
    exact a4
  · rw [cg 285 12 (by unfold relz relc; omega) (by omega) (by omega) (by omega) (by omega) (by omega), cg 2 6 (by unfold relz relc; omega) (by omega) (by omega) (by omega) (by omega) (by omega)]
    exact a5
  · rw [h1, h2, cg 71 2 (by unfold relz relc; omega) (by omega) (by omega) (by omega) (by omega) (by omega)]
    exact ⟨rfl, by omega, by omega, n0, n1, fun j h1 h2 => absurd h2 (by omega)⟩
  · rw [cg 285 3 (by unfold relz relc; omega) (by omega) (by omega) (by omega) (by omega) (by omega), cg 1 4 (by unfold relz relc; omega) (by omega) (by omega) (by omega) (by omega) (by omega), cf 287 (by unfold relc; omega) (by omega) (by omega) (by omega) (by omega) (by omega), cf 61 (by unfold relc; omega) (by omega) (by omega) (by omega) (by omega) (by omega), cf 62 (by unfold relc; omega) (by omega) (by omega) (by omega) (by omega) (by omega), cf 63 (by unfold relc; omega) (by omega) (by omega) (by omega) (by omega) (by omega), cf 64 (by unfold relc; omega) (by omega) (by omega) (by omega) (by omega) (by omega), cf 65 (by unfold relc; omega) (by omega) (by omega) (by omega) (by omega) (by omega)]
    obtain ⟨c1, c2, c3⟩ := a7
    refine ⟨c1, c2, fun h1 => ?_⟩
    obtain ⟨d1, d2, d3⟩ := c3 h1
    exact ⟨rb_sm d1 (fun k h1 h2 => cf k (by unfold relc; omega) (by omega) (by omega) (by omega) (by omega) (by omega)), Inv_mono d2 hb, d3⟩
theorem op_seed (B : Big b s) {n : Int} (v1 : -2147483648 ≤ n) (v2 : n < 2147483648) : Op0 (Big b) (fun h => EV (d + 40) 176 0 [.ref 1, .int (q_I (n)), .null] [] h) (fun h => EV (d + 40) 346 0 [.ref 285, .int (q_I (n)), .null] [] h) L xs s O c := by
  have H := B.1.1
  have I := B.1.2.1
  have hn := rb_seed H
  refine ⟨q_g s 286 7, q_u s 7 9 n, q_u (q_u (q_u s 7 9 n) 285 0 0) 286 7 n, ?_, ?_, ?_⟩
  · simp (disch := first | omega | exact q_b_01 _) only [↓reduceIte, q_bk0, q_bk1, q_bk2, q_sg_b, q_b_0, q_b_n0, q_b_1, q_b_n1, q_b_T, q_b_F, q_sg_g, q_sg_sg, q_sg_xs, q_sg_id, q_gu_ne, q_gu_eq, q_g_fne, q_g_cpe, q_w_f, q_v_f, q_u_f, q_fn_f, q_cp_f, q_sg_pg, q_sg_hc, q_lt_t, q_lt_f, q_le_t, q_le_f, q_eq_t, q_eq_f, ne_eq, eq_self, Bool.false_eq_true, Bool.true_eq_false, not_true_eq_false, not_false_eq_true, true_and, and_true, false_and, and_false, true_or, or_true, false_or, or_false, if_true, if_false, Int.reduceAdd, Int.reduceMul, Int.reduceSub, Int.reduceNeg, hn, R_176_0, R_176_16]
  · simp (disch := first | omega | exact q_b_01 _) only [↓reduceIte, q_bk0, q_bk1, q_bk2, q_sg_b, q_b_0, q_b_n0, q_b_1, q_b_n1, q_b_T, q_b_F, q_sg_g, q_sg_sg, q_sg_xs, q_sg_id, q_gu_ne, q_gu_eq, q_g_fne, q_g_cpe, q_w_f, q_v_f, q_u_f, q_fn_f, q_cp_f, q_sg_pg, q_sg_hc, q_lt_t, q_lt_f, q_le_t, q_le_f, q_eq_t, q_eq_f, ne_eq, eq_self, Bool.false_eq_true, Bool.true_eq_false, not_true_eq_false, not_false_eq_true, true_and, and_true, false_and, and_false, true_or, or_true, false_or, or_false, if_true, if_false, Int.reduceAdd, Int.reduceMul, Int.reduceSub, Int.reduceNeg, R_346_0, R_346_5, R_346_12, R_346_21]
  · have uk : ∀ k z, 7 ≤ k → k ≤ 20 → ¬ (k = 7 ∧ z = 9) → q_g (q_u (q_u (q_u s 7 9 n) 285 0 0) 286 7 n) k z = q_g s k z := fun k z a1 a2 a3 => by
      rw [q_gu_ne (by omega), q_gu_ne (by omega), q_gu_ne (by omega)]
    have ez : ∀ z, z ≠ 7 → q_g (q_u (q_u (q_u s 7 9 n) 285 0 0) 286 7 n) 286 z = q_g s 286 z := fun z z1 => by rw [q_gu_ne (by omega), q_gu_ne (by omega), q_gu_ne (by omega)]
    have e7 : q_g (q_u (q_u (q_u s 7 9 n) 285 0 0) 286 7 n) 286 7 = n := by rw [q_gu_eq rfl, q_sg_id v1 v2]
    have u9 : q_g (q_u (q_u (q_u s 7 9 n) 285 0 0) 286 7 n) 7 9 = n := by rw [q_gu_ne (by omega), q_gu_ne (by omega), q_gu_eq rfl, q_sg_id v1 v2]
    have hp : ∀ p w, 0 ≤ p → p < 48 → 0 ≤ w → w < 16 → pg (q_g (q_u (q_u (q_u s 7 9 n) 285 0 0) 286 7 n) 286) p w = pg (q_g s 286) p w := fun p w p0 p1 w0 w1 => ez _ (by omega)
    refine Big_now B (Int.le_refl _) (fun k z c1 c2 c3 => by rw [q_u_n (by omega), q_u_n (by unfold relz relc at c1; omega), q_u_n (by omega)]) (fun z hz => ez z (by omega)) ?_ ?_
    · refine RB_upd H I hp (fun k a1 a2 => funext fun z => uk k z (by omega) (by omega) (by omega)) (fun r r0 r1 => ?_) ?_ ?_ ?_
      · rw [uk 16 r (by omega) (by omega) (by omega), uk 17 r (by omega) (by omega) (by omega), ez _ (by omega), ez _ (by omega)]
        exact H.2.2.1 r r0 r1
      · rw [uk 7 5 (by omega) (by omega) (by omega), ez 8 (by omega)]
        refine ⟨H.2.2.2.1.1, fun k k0 k1 => ?_⟩
        rw [uk 18 k (by omega) (by omega) (by omega), uk 19 k (by omega) (by omega) (by omega), ez _ (by omega), ez _ (by omega)]
        exact H.2.2.2.1.2 k k0 k1
      · rw [u9, e7, uk 7 6 (by omega) (by omega) (by omega), uk 7 7 (by omega) (by omega) (by omega), uk 7 8 (by omega) (by omega) (by omega), uk 7 10 (by omega) (by omega) (by omega), uk 7 12 (by omega) (by omega) (by omega), ez 3 (by omega), ez 4 (by omega), ez 5 (by omega), ez 0 (by omega), ez 6 (by omega)]
        have := H.2.2.2.2.1
        exact ⟨this.1, this.2.1, this.2.2.1, rfl, this.2.2.2.2⟩
      · rw [uk 7 13 (by omega) (by omega) (by omega), ez 6 (by omega)]
        refine ⟨H.2.2.2.2.2.1, fun a w a0 a1 w0 w1 => ?_⟩
        rw [uk 20 _ (by omega) (by omega) (by omega), ez _ (by omega)]
        exact H.2.2.2.2.2.2 a w a0 a1 w0 w1
    · refine Inv_upd I hp (fun r r0 r1 hv => ?_) (fun r r0 r1 => ?_) ?_ ?_
      · rw [ez _ (by omega)] at hv
        exact Or.inl ⟨hv, ez _ (by omega), ez _ (by omega)⟩
      · rw [ez _ (by omega)]
        exact I.2.2.2 r r0 r1
      · rw [ez 8 (by omega)]
        refine ⟨I.2.1.1, I.2.1.2.1, fun k k0 k1 => ?_⟩
        rw [ez _ (by omega), ez _ (by omega)]
        exact I.2.1.2.2 k k0 k1
      · rw [ez 0 (by omega), ez 3 (by omega), ez 4 (by omega), ez 5 (by omega), ez 6 (by omega)]
        exact I.2.2.1
end NW
