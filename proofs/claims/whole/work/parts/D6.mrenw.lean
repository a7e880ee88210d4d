/-! THE REFERENCE: the way is new -/
section MRW
variable {d L : Nat} {xs : Nat → Int32} {O : Nat → Int64} {c : Bool × Nat × Nat} {key : Int} {D1 D2 : Ar}
theorem wyn_fr : ∀ {t : Tr} {h : Nat} {lo hi x : Int}, Okt t h lo hi → Rep D1 t x → (∀ z, Wi D1 t x z → Row D1 D2 z) → ∀ i, wyn D2 key t x i = wyn D1 key t x i := by
  intro t
  induction t using Tr_rc with
  | lf p n a b =>
    try dsimp only [Rep_e1, Rep_e2, Wi_e1, Wi_e2, Okt_e1, Okt_e2] at *
    exact fun _ _ _ i => rfl
  | br p n a cc ih =>
    try dsimp only [Rep_e1, Rep_e2, Wi_e1, Wi_e2, Okt_e1, Okt_e2] at *
    rintro h lo hi x ⟨h', e, n0, n1, r⟩ hr hw i
    obtain ⟨s0, s1, s2, s3⟩ := slt_ok (n := n) (a := a) (key := key) n0
    cases i with
    | zero => rfl
    | succ i =>
      have eB := ((hw x (Or.inl rfl)).2.2.2 (slt n a key) s0 (by omega)).2
      show wyn D2 key (cc (slt n a key)) (D2.B x (slt n a key)) i = _
      rw [eB]
      exact ih _ (r _ s0 s1).2.2 (hr.2.2.2.2.2 _ s0 s1).2 (fun z hz => hw z (Or.inr ⟨_, s0, s1, hz⟩)) i
theorem mm_renL {D : Int} : ∀ {t : Tr} {h : Nat} {lo hi : Int} (l y P jP : Int) (s : Nat → Int → Int32) (Lf : Int → Prop), Okt t h lo hi → Sub (dM s) (q_g s 285 25) t y → 48 ≤ q_g s 285 25 → q_g s 285 25 + rnw 1 key t ≤ 240 → (∀ i : Nat, i ≤ h → q_g s 299 (l + i) = wyn (dM s) key t y i) → (∀ i : Nat, i < h → q_g s 300 (l + i) = sln key t i) → 0 ≤ l → l + h = D → D < 16 → (l ≠ 0 → q_g s 299 (l - 1) = P ∧ q_g s 300 (l - 1) = jP ∧ 48 ≤ P ∧ P < q_g s 285 25 ∧ 0 ≤ jP ∧ jP < 6 ∧ ¬ Wi (dM s) t y P) → LfM s Lf → ∃ u y', EV (d + 2) 265 2 [.ref 285, .int (q_I (D)), .int (q_I (l))] [] (q_h L xs s O c) = some (.inl none, q_h L xs (u) O c) ∧ Sub (dM u) (q_g u 285 25) (ren key t) y' ∧ q_g u 285 25 = q_g s 285 25 + rnw 1 key t ∧ (∀ z, Wi (dM u) (ren key t) y' z → Wi (dM s) t y z ∨ q_g s 285 25 ≤ z) ∧ (∀ z, z < q_g s 285 25 → ¬ Wi (dM s) t y z → (l = 0 ∨ z ≠ P) → Row (dM s) (dM u) z) ∧ (l ≠ 0 → (dM u).K P = (dM s).K P ∧ (dM u).R P = (dM s).R P ∧ (∀ k, 0 ≤ k → k < 6 → (dM u).A P k = (dM s).A P k ∧ (k ≠ jP → (dM u).B P k = (dM s).B P k)) ∧ (dM u).B P jP = y') ∧ (l = 0 → q_g u 285 26 = y') ∧ (l ≠ 0 → u 285 26 = s 285 26) ∧ (∀ i : Nat, i ≤ h → q_g u 299 (l + i) = wyn (dM u) key (ren key t) y' i) ∧ (∀ z, z < l → u 299 z = s 299 z) ∧ LfM u (fun z => Lf z ∨ WP key t z) ∧ ∀ k z, ¬ (294 ≤ k ∧ k ≤ 297) → ¬ (k = 285 ∧ (z = 25 ∨ z = 26)) → k ≠ 299 → k ≠ 301 → u k z = s k z := by
  have node : ∀ {t : Tr} {h : Nat} {lo hi : Int} (l y P jP : Int) (s : Nat → Int → Int32) (Lf : Int → Prop), Okt t h lo hi → Sub (dM s) (q_g s 285 25) t y → 48 ≤ q_g s 285 25 → q_g s 285 25 + (if tpg t = -1 then 0 else 1) ≤ 240 → q_g s 299 l = y → 0 ≤ l → l ≤ D → D < 16 → (l ≠ 0 → q_g s 299 (l - 1) = P ∧ q_g s 300 (l - 1) = jP ∧ 48 ≤ P ∧ P < q_g s 285 25 ∧ 0 ≤ jP ∧ jP < 6 ∧ ¬ Wi (dM s) t y P) → LfM s Lf → ∃ s1 y1, EV (d + 2) 265 2 [.ref 285, .int (q_I (D)), .int (q_I (l))] [] (q_h L xs s O c) = EV (d + 2) 265 2 [.ref 285, .int (q_I (D)), .int (q_I (l + 1))] [] (q_h L xs (s1) O c) ∧ Sub (dM s1) (q_g s1 285 25) (mrk t) y1 ∧ q_g s1 285 25 = q_g s 285 25 + (if tpg t = -1 then 0 else 1) ∧ 48 ≤ y1 ∧ (y1 = y ∨ y1 = q_g s 285 25) ∧ (∀ z, Wi (dM s1) (mrk t) y1 z → Wi (dM s) t y z ∨ z = q_g s 285 25) ∧ (∀ z, z < q_g s 285 25 → (l = 0 ∨ z ≠ P) → Row (dM s) (dM s1) z) ∧ (∀ k, 0 ≤ k → k < 6 → (dM s1).B y1 k = (dM s).B y k) ∧ (l ≠ 0 → (dM s1).K P = (dM s).K P ∧ (dM s1).R P = (dM s).R P ∧ (∀ k, 0 ≤ k → k < 6 → (dM s1).A P k = (dM s).A P k ∧ (k ≠ jP → (dM s1).B P k = (dM s).B P k)) ∧ (dM s1).B P jP = y1) ∧ (l = 0 → q_g s1 285 26 = y1) ∧ (l ≠ 0 → s1 285 26 = s 285 26) ∧ q_g s1 299 l = y1 ∧ (∀ z, z ≠ l → s1 299 z = s 299 z) ∧ LfM s1 (fun z => Lf z ∨ (tpg t ≠ -1 ∧ z = tpg t)) ∧ ∀ k z, ¬ (294 ≤ k ∧ k ≤ 297) → ¬ (k = 285 ∧ (z = 25 ∨ z = 26)) → k ≠ 299 → k ≠ 301 → s1 k z = s k z := by
    intro t h lo hi l y P jP s Lf o S n0 n1 hw l0 l1 l2 hP hl
    have yr := S.2.2 y (Wi_self (dM s) t y)
    obtain ⟨u, y1, e1, e2, e3, e4, e5, e6, e7, e8, e9, e10⟩ := mm_rn1 (d := d) (L := L) (xs := xs) (O := O) (c := c) o S rfl n0 n1 hl
    have y1r := e2.2.2 y1 (Wi_self _ _ _)
    have rng : y1 < 240 := by omega
    have eB : ∀ k, 0 ≤ k → k < 6 → (dM u).B y1 k = (dM s).B y k := fun k k0 k1 => by
      rcases e7 with e | e
      · rw [e]
      · exact e k k0 k1
    generalize hN : q_g s 285 25 = N at *
    by_cases c0 : l = 0
    · have eD : dM (q_u (q_u u 299 l y1) 285 26 y1) = dM u := dM_c (fun k k0 k1 => by rw [q_u_k (by omega), q_u_k (by omega)])
      have g25 : q_g (q_u (q_u u 299 l y1) 285 26 y1) 285 25 = q_g u 285 25 := by rw [q_gu_ne (by omega), q_gu_ne (by omega)]
      try dsimp only [Wi_e1, Wi_e2, Okt_e1, Okt_e2, WP_e1, WP_e2, ren_e1, ren_e2, mrk_e1, mrk_e2]
      refine ⟨q_u (q_u u 299 l y1) 285 26 y1, y1, ?_, by rw [eD, g25]; exact e2, by rw [g25, e3], e4, e9, by rw [eD]; exact e5, fun z hz _ => by rw [eD]; exact e6 z hz, by rw [eD]; exact eB, fun z => absurd c0 z, fun _ => by rw [q_gu_eq rfl, q_sg_id (by omega) (by omega)], fun z => absurd c0 z, by rw [q_gu_ne (by omega), q_gu_eq rfl, q_sg_id (by omega) (by omega)], fun z hz => by rw [q_u_n (by omega), q_u_n (by omega), e10 299 z (by omega) (by omega) (by omega)], LfM_sm e8 (fun z _ => by rw [q_u_n (by omega), q_u_n (by omega)]), fun k z h1 h2 h3 h4 => by rw [q_u_n (by omega), q_u_n (by omega), e10 k z h1 (by omega) h4]⟩
      have g : q_g (q_u u 299 l y1) 299 0 = y1 := by rw [q_gu_eq (by omega), q_sg_id (by omega) (by omega)]
      rw [R_265_2]
      subst c0
      simp (disch := first | omega | exact q_b_01 _) only [↓reduceIte, q_bk0, q_bk1, q_bk2, q_sg_b, q_b_0, q_b_n0, q_b_1, q_b_n1, q_b_T, q_b_F, q_sg_g, q_sg_sg, q_sg_xs, q_sg_id, q_gu_ne, q_gu_eq, q_g_fne, q_g_cpe, q_w_f, q_v_f, q_u_f, q_fn_f, q_cp_f, q_sg_pg, q_sg_hc, q_lt_t, q_lt_f, q_le_t, q_le_f, q_eq_t, q_eq_f, ne_eq, eq_self, Bool.false_eq_true, Bool.true_eq_false, not_true_eq_false, not_false_eq_true, true_and, and_true, false_and, and_false, true_or, or_true, false_or, or_false, if_true, if_false, Int.reduceAdd, Int.reduceMul, Int.reduceSub, Int.reduceNeg, hw, e1, g, R_265_0, R_265_7, R_265_22, R_265_23, R_265_27, R_265_34, R_265_37, R_265_40, R_265_54, R_265_63, R_265_70, R_265_71, R_265_77, C_265_19]
    · obtain ⟨p1, p2, p3, p4, p5, p6, p7⟩ := hP c0
      have dB := dQ_B (s := q_u u 299 l y1) (q := 294) (fr := fun x => if x < 48 then 0 else 1) (y := P) (p := jP) (v := y1) p5 p6 (by omega) (by omega)
      have eD : dM (q_u u 299 l y1) = dM u := dM_c (fun k k0 k1 => q_u_k (by omega))
      have eD' : dQ 294 (fun x => if x < 48 then 0 else 1) (q_u u 299 l y1) = dM u := eD
      rw [eD'] at dB
      have nP : ∀ z, Wi (dM u) (mrk t) y1 z → z ≠ P := fun z hz e => by
        rcases e5 z hz with f | f
        · rw [e] at f
          exact p7 f
        · omega
      obtain ⟨V1, V2, V3⟩ := Rep_fr (D' := dM (q_u (q_u u 299 l y1) 297 (6 * P + jP) y1)) e2.1 (fun z hz => dB.2 z (nP z hz))
      have g25 : q_g (q_u (q_u u 299 l y1) 297 (6 * P + jP) y1) 285 25 = q_g u 285 25 := by rw [q_gu_ne (by omega), q_gu_ne (by omega)]
      have rP := e6 P p4
      try dsimp only [Wi_e1, Wi_e2, Okt_e1, Okt_e2, WP_e1, WP_e2, ren_e1, ren_e2, mrk_e1, mrk_e2]
      refine ⟨q_u (q_u u 299 l y1) 297 (6 * P + jP) y1, y1, ?_, ⟨V1, V3 e2.2.1, fun z hz => by rw [g25]; exact e2.2.2 z ((V2 z).mp hz)⟩, by rw [g25, e3], e4, e9, fun z hz => e5 z ((V2 z).mp hz), fun z hz hz' => Row_trans (e6 z hz) (dB.2 z (by omega)), fun k k0 k1 => ?_, fun _ => ⟨dB.1.1.trans rP.1, dB.1.2.1.trans rP.2.1, fun k k0 k1 => ⟨(dB.1.2.2.2.1 k k0 k1).1.trans (rP.2.2.2 k k0 k1).1, fun hk => ((dB.1.2.2.2.1 k k0 k1).2 hk).trans (rP.2.2.2 k k0 k1).2⟩, dB.1.2.2.2.2⟩, fun z => absurd z c0, fun _ => by rw [q_u_n (by omega), q_u_n (by omega), e10 285 26 (by omega) (by omega) (by omega)], by rw [q_gu_ne (by omega), q_gu_eq rfl, q_sg_id (by omega) (by omega)], fun z hz => by rw [q_u_n (by omega), q_u_n (by omega), e10 299 z (by omega) (by omega) (by omega)], LfM_sm e8 (fun z _ => by rw [q_u_n (by omega), q_u_n (by omega)]), fun k z h1 h2 h3 h4 => by rw [q_u_n (by omega), q_u_n (by omega), e10 k z h1 (by omega) h4]⟩
      · have g1 : q_g (q_u u 299 l y1) 299 (l - 1) = P := by
          rw [q_gu_ne (by omega)]
          show (u 299 (l - 1)).toInt = _
          rw [e10 299 _ (by omega) (by omega) (by omega)]
          exact p1
        have g2 : q_g (q_u u 299 l y1) 300 (l - 1) = jP := by
          rw [q_gu_ne (by omega)]
          show (u 300 (l - 1)).toInt = _
          rw [e10 300 _ (by omega) (by omega) (by omega)]
          exact p2
        have g3 : q_g (q_u u 299 l y1) 299 l = y1 := by rw [q_gu_eq rfl, q_sg_id (by omega) (by omega)]
        rw [R_265_2]
        simp (disch := first | omega | exact q_b_01 _) only [↓reduceIte, q_bk0, q_bk1, q_bk2, q_sg_b, q_b_0, q_b_n0, q_b_1, q_b_n1, q_b_T, q_b_F, q_sg_g, q_sg_sg, q_sg_xs, q_sg_id, q_gu_ne, q_gu_eq, q_g_fne, q_g_cpe, q_w_f, q_v_f, q_u_f, q_fn_f, q_cp_f, q_sg_pg, q_sg_hc, q_lt_t, q_lt_f, q_le_t, q_le_f, q_eq_t, q_eq_f, ne_eq, eq_self, Bool.false_eq_true, Bool.true_eq_false, not_true_eq_false, not_false_eq_true, true_and, and_true, false_and, and_false, true_or, or_true, false_or, or_false, if_true, if_false, Int.reduceAdd, Int.reduceMul, Int.reduceSub, Int.reduceNeg, hw, e1, c0, g1, g2, g3, R_265_0, R_265_7, R_265_22, R_265_23, R_265_27, R_265_34, R_265_37, R_265_40, R_265_54, R_265_63, R_265_70, R_265_71, R_265_77, C_265_19]
      · exact ((dB.2 y1 (nP y1 (Wi_self _ _ _))).2.2.2 k k0 k1).2.trans (eB k k0 k1)
  intro t
  induction t using Tr_rc with
  | lf p n a b =>
    try dsimp only [Wi_e1, Wi_e2, Okt_e1, Okt_e2, WP_e1, WP_e2, ren_e1, ren_e2, mrk_e1, mrk_e2] at *
    intro h lo hi l y P jP s Lf o S n0 n1 hw hs l0 lD l2 hP hl
    have e : h = 0 := o.1
    subst e
    obtain ⟨s1, y1, m1, m2, m3, m4, m5, m6, m7, m8, m9, m10, m11, m12, m13, m14, m15⟩ := node l y P jP s Lf (show Okt (.lf p n a b) 0 lo hi from o) S n0 n1 (by
      have := hw 0 (Nat.le_refl _)
      rw [wyn_0, show l + ((0 : Nat) : Int) = l by omega] at this
      exact this) l0 (by omega) l2 hP hl
    try dsimp only [Wi_e1, Wi_e2, Okt_e1, Okt_e2, WP_e1, WP_e2, ren_e1, ren_e2, mrk_e1, mrk_e2]
    refine ⟨s1, y1, ?_, m2, m3, fun z hz => ?_, fun z hz hz' h0 => m7 z hz h0, m9, m10, m11, fun i hi => ?_, fun z hz => m13 z (by omega), m14, m15⟩
    · rw [m1, R_265_2]
      simp (disch := first | omega | exact q_b_01 _) only [↓reduceIte, q_bk0, q_bk1, q_bk2, q_sg_b, q_b_0, q_b_n0, q_b_1, q_b_n1, q_b_T, q_b_F, q_sg_g, q_sg_sg, q_sg_xs, q_sg_id, q_gu_ne, q_gu_eq, q_g_fne, q_g_cpe, q_w_f, q_v_f, q_u_f, q_fn_f, q_cp_f, q_sg_pg, q_sg_hc, q_lt_t, q_lt_f, q_le_t, q_le_f, q_eq_t, q_eq_f, ne_eq, eq_self, Bool.false_eq_true, Bool.true_eq_false, not_true_eq_false, not_false_eq_true, true_and, and_true, false_and, and_false, true_or, or_true, false_or, or_false, if_true, if_false, Int.reduceAdd, Int.reduceMul, Int.reduceSub, Int.reduceNeg, R_265_0, R_265_7, R_265_22, R_265_23, R_265_27, R_265_34, R_265_37, R_265_40, R_265_54, R_265_63, R_265_70, R_265_71, R_265_77, C_265_19]
    · rcases m6 z hz with f | f
      · exact Or.inl f
      · exact Or.inr (by omega)
    · have e : i = 0 := by omega
      subst e
      rw [show l + ((0 : Nat) : Int) = l by omega, m12]
      rfl
  | br p n a cc ih =>
    try dsimp only [Wi_e1, Wi_e2, Okt_e1, Okt_e2, WP_e1, WP_e2, ren_e1, ren_e2, mrk_e1, mrk_e2] at *
    intro h lo hi l y P jP s Lf o S n0 n1 hw hs l0 lD l2 hP hl
    have o' : Okt (.br p n a cc) h lo hi := o
    obtain ⟨h', e, nn0, nn1, r⟩ := o
    subst e
    obtain ⟨s0, s1', s2, s3⟩ := slt_ok (n := n) (a := a) (key := key) nn0
    have eR : rnw 1 key (.br p n a cc) = (if p = -1 then 0 else 1) + rnw 1 key (cc (slt n a key)) := rfl
    have r0 := rnw_0 (q := 1) (key := key) (by omega) (cc (slt n a key))
    rw [eR] at n1
    obtain ⟨s1, y1, m1, m2, m3, m4, m5, m6, m7, m8, m9, m10, m11, m12, m13, m14, m15⟩ := node l y P jP s Lf o' S n0 (by show _ + (if p = -1 then 0 else 1) ≤ 240; omega) (by
      have := hw 0 (by omega)
      rw [wyn_0, show l + ((0 : Nat) : Int) = l by omega] at this
      exact this) l0 (by omega) l2 hP hl
    have m3' : q_g s1 285 25 = q_g s 285 25 + (if p = -1 then 0 else 1) := m3
    have hN1 : q_g s 285 25 ≤ q_g s1 285 25 := by
      rw [m3']
      split <;> omega
    have S1 : Sub (dM s1) (q_g s1 285 25) (.br (-1) n a cc) y1 := m2
    have y1r := S1.2.2 y1 (Or.inl rfl)
    have Sk := Sub_kid S1 s0 s1'
    have eB1 : (dM s1).B y1 (slt n a key) = (dM s).B y (slt n a key) := m8 _ s0 (by omega)
    have kidW : ∀ k, 0 ≤ k → k < n → ∀ z, Wi (dM s) (cc k) ((dM s).B y k) z → (l = 0 ∨ z ≠ P) := fun k k0 k1 z hz => by
      by_cases c0 : l = 0
      · exact Or.inl c0
      · refine Or.inr (fun e => ?_)
        subst e
        exact (hP c0).2.2.2.2.2.2 (Or.inr ⟨k, k0, k1, hz⟩)
    have wk := fun i => wyn_fr (D1 := dM s) (D2 := dM s1) (key := key) (r _ s0 s1').2.2 ((Sub_R2 S).2.2.2.2.2 _ s0 s1').2 (fun z hz => m7 z (S.2.2 z (Or.inr ⟨_, s0, s1', hz⟩)).2 (kidW _ s0 s1' z hz)) i
    have hj0 : q_g s1 300 l = slt n a key := by
      show (s1 300 l).toInt = _
      rw [m15 300 l (by omega) (by omega) (by omega) (by omega)]
      have := hs 0 (by omega)
      rw [show l + ((0 : Nat) : Int) = l by omega] at this
      exact this
    obtain ⟨u, z', q1, q2, q3, q4, q5, q6, q7, q8, q9, q10, q11, q12⟩ := ih (slt n a key) (l + 1) ((dM s1).B y1 (slt n a key)) y1 (slt n a key) s1 (fun z => Lf z ∨ (tpg (.br p n a cc) ≠ -1 ∧ z = tpg (.br p n a cc))) (r _ s0 s1').2.2 Sk (by omega) (by split at m3' <;> split at n1 <;> omega) (fun i hi => by
      rw [eB1, wk i]
      show (s1 299 (l + 1 + i)).toInt = _
      rw [m13 _ (by omega)]
      have := hw (i + 1) (by omega)
      rw [show l + ((i + 1 : Nat) : Int) = l + 1 + (i : Int) by omega] at this
      exact this) (fun i hi => by
      show (s1 300 (l + 1 + i)).toInt = _
      rw [m15 300 _ (by omega) (by omega) (by omega) (by omega)]
      have := hs (i + 1) (by omega)
      rw [show l + ((i + 1 : Nat) : Int) = l + 1 + (i : Int) by omega] at this
      exact this) (by omega) (by omega) l2 (fun _ => ⟨by rw [show l + 1 - 1 = l by omega]; exact m12, by rw [show l + 1 - 1 = l by omega]; exact hj0, m4, y1r.2, s0, by omega, (S1.2.1 _ s0 s1').2.1⟩) m14
    obtain ⟨g1, g2, g3, g4⟩ := q6 (by omega)
    have er : ren key (.br p n a cc) = .br (-1) n a (up cc (slt n a key) (ren key (cc (slt n a key)))) := rfl
    have hw1 : WP key (.br p n a cc) = fun z => (p ≠ -1 ∧ z = p) ∨ WP key (cc (slt n a key)) z := rfl
    have ewy : ∀ i : Nat, wyn (dM u) key (ren key (.br p n a cc)) y1 (i + 1) = wyn (dM u) key (ren key (cc (slt n a key))) z' i := fun i => by
      rw [er]
      show wyn (dM u) key (up cc (slt n a key) (ren key (cc (slt n a key))) (slt n a key)) ((dM u).B y1 (slt n a key)) i = _
      rw [up_eq rfl, g4]
    have fr1 : (dM s1).fr y1 = 1 := if_neg (by omega)
    have C : Chd (dM s1) (q_g s1 285 25) (.br (-1) n a cc) y1 (dM u) (q_g u 285 25) (.br (-1) n a (up cc (slt n a key) (ren key (cc (slt n a key))))) y1 := by
      generalize slt n a key = j at *
      refine mkbr (j := j) (o := fun k => k) S1 (by rw [q3]; omega) (g1.trans (Sub_R2 S1).1) (g2.trans (Sub_R2 S1).2.1) (by omega) (by omega) (Or.inr ⟨fr1, rfl⟩) (fun k k0 k1 => (g3 k k0 (by omega)).1.trans ((Sub_R2 S1).2.2.2.2.2 k k0 k1).1) (fun k k0 k1 => ⟨⟨k0, k1⟩, ?_⟩) (fun k k' _ _ _ _ hk e => absurd e hk) (fun z hz hz' => q5 z hz (fun f => hz' (Or.inr ⟨j, s0, s1', f⟩)) (Or.inr (fun e => hz' (Or.inl e))))
      by_cases e : k = j
      · subst e
        rw [up_eq rfl, g4]
        try dsimp only [Wi_e1, Wi_e2, Okt_e1, Okt_e2, WP_e1, WP_e2, ren_e1, ren_e2, mrk_e1, mrk_e2]
        refine ⟨q2.1, q2.2.1, fun z hz => ?_⟩
        rcases q4 z hz with f | f
        · exact Or.inl f
        · exact Or.inr ⟨rfl, f, (q2.2.2 z hz).2⟩
      · rw [up_ne e, (g3 k k0 (by omega)).2 e]
        obtain ⟨V1, V2, V3⟩ := Rep_fr (D' := dM u) ((Sub_R2 S1).2.2.2.2.2 k k0 k1).2 (fun z hz => q5 z (S1.2.2 z (Or.inr ⟨k, k0, k1, hz⟩)).2 ((S1.2.1 k k0 k1).2.2 j s0 s1' e z hz) (Or.inr (fun f => by
          subst f
          exact (S1.2.1 k k0 k1).2.1 hz)))
        exact ⟨V1, V3 (S1.2.1 k k0 k1).1, fun z hz => Or.inl ((V2 z).mp hz)⟩
    have wis : ∀ z, Wi (dM s1) (cc (slt n a key)) ((dM s1).B y1 (slt n a key)) z → Wi (dM s) (.br p n a cc) y z ∨ z = q_g s 285 25 := fun z hz => m6 z (Or.inr ⟨_, s0, s1', hz⟩)
    try dsimp only [Wi_e1, Wi_e2, Okt_e1, Okt_e2, WP_e1, WP_e2, ren_e1, ren_e2, mrk_e1, mrk_e2]
    refine ⟨u, y1, m1.trans q1, C.1, by rw [q3, m3', eR]; omega, fun z hz => ?_, fun z hz hz' h0 => ?_, fun c0 => ?_, fun c0 => ?_, fun c0 => ?_, fun i hi => ?_, fun z hz => ?_, LfM_iff q11 (fun z => ?_), fun k z h1 h2 h3 h4 => by rw [q12 k z h1 h2 h3 h4, m15 k z h1 h2 h3 h4]⟩
    · rcases C.2.2.1 z hz with f | f
      · rcases m6 z f with f' | f'
        · exact Or.inl f'
        · exact Or.inr (by omega)
      · exact Or.inr (by omega)
    · refine Row_trans (m7 z hz h0) (q5 z (by omega) (fun f => ?_) (Or.inr (fun f => ?_)))
      · rcases wis z f with f' | f'
        · exact hz' f'
        · omega
      · rcases m5 with f' | f'
        · exact hz' (Or.inl (f.trans f'))
        · omega
    · obtain ⟨p1, p2, p3, p4, p5, p6, p7⟩ := hP c0
      obtain ⟨k1, k2, k3, k4⟩ := m9 c0
      have rP := q5 P (by omega) (fun f => by
        rcases wis P f with f' | f'
        · exact p7 f'
        · omega) (Or.inr (fun f => by
        rcases m5 with f' | f'
        · exact p7 (Or.inl (f.trans f'))
        · omega))
      exact ⟨rP.1.trans k1, rP.2.1.trans k2, fun k z0 z1 => ⟨(rP.2.2.2 k z0 z1).1.trans (k3 k z0 z1).1, fun hk => (rP.2.2.2 k z0 z1).2.trans ((k3 k z0 z1).2 hk)⟩, (rP.2.2.2 jP p5 p6).2.trans k4⟩
    · show (u 285 26).toInt = _
      rw [q8 (by omega)]
      exact m10 c0
    · rw [q8 (by omega), m11 c0]
    · cases i with
      | zero =>
        rw [wyn_0, show l + ((0 : Nat) : Int) = l by omega]
        show (u 299 l).toInt = _
        rw [q10 l (by omega)]
        exact m12
      | succ i =>
        show _ = wyn (dM u) key (ren key (.br p n a cc)) y1 (i + 1)
        rw [ewy i, show l + ((i + 1 : Nat) : Int) = l + 1 + (i : Int) by omega]
        exact q9 i (by omega)
    · rw [q10 z (by omega), m13 z (by omega)]
    · try rw [hw1]
      constructor
      · rintro ((f | f) | f)
        · exact Or.inl f
        · exact Or.inr (Or.inl f)
        · exact Or.inr (Or.inr f)
      · rintro (f | f | f)
        · exact Or.inl (Or.inl f)
        · exact Or.inl (Or.inr f)
        · exact Or.inr f
end MRW
