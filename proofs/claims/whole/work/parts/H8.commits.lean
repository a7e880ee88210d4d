/-! CHANGES COMMITTED, of both -/
section CMT
variable {d L : Nat} {xs : Nat → Int32} {s u : Nat → Int → Int32} {O : Nat → Int64} {c : Bool × Nat × Nat} {m : Int → Int} {b n sc pw pw' : Int} {T : Option Tr} {Lf : Int → Prop} {dr : Bool}
theorem act_mm2 (B : Big b s) {s2 : Nat → Int → Int32} (h2 : ∀ k z, relz k z → ¬ (7 ≤ k ∧ k ≤ 20) → s2 k z = rmC s k z) : ∃ t, EV (d) 303 0 [.ref 285, .null] [] (q_h L xs (q_u s2 285 0 0) O c) = some (.inl none, q_h L xs (t) O c) ∧ (∀ z, q_g t 286 z = q_g s 286 z) ∧ (∀ k z, k ≠ 289 → ¬ (k = 285 ∧ (z = 0 ∨ z = 6)) → t k z = s2 k z) ∧ q_g t 285 0 = 0 ∧ ∀ (u : Nat → Int → Int32) (b' : Int), b ≤ b' → (∀ k z, relz k z → k ≠ 286 → u k z = t k z) → (∀ z, z = 1 ∨ z = 2 ∨ 1049 ≤ z → q_g u 286 z = q_g s 286 z) → RB (q_g u 286) u 7 → Inv (q_g u 286) b' → Big b' u := by
  have Hi := B.2.2.2.1
  have hr : 73 ≤ q_r72 (q_g s 71 2) ∧ q_r72 (q_g s 71 2) + 13 ≤ 240 := by unfold q_r72; omega
  have hA : q_g (q_u s2 285 0 0) 285 6 = q_g s 71 1 := by
    rw [q_gu_ne (by omega)]
    show (s2 285 6).toInt = _
    rw [h2 285 6 (by unfold relz relc; omega) (by omega)]
    show q_g (rmC s) 285 6 = _
    rw [act_f B (by omega) (by omega), Hi.1]
  obtain ⟨t, m1, m2, m3, m4, m5⟩ := mm_remembers (d := d) (L := L) (xs := xs) (O := O) (c := c) hA Hi.2.1 Hi.2.2.1
  refine ⟨t, m1, fun z => ?_, fun k z k1 k2 => by rw [m3 k z k1 (by omega), q_u_n (by omega)], ?_, fun u b' hb h3 h4 h5 h6 => ?_⟩
  · show (t 286 z).toInt = _
    rw [m3 286 z (by omega) (by omega), q_u_n (by omega), h2 286 z (by unfold relz relc; omega) (by omega)]
    show q_g (rmC s) 286 z = _
    rw [act_f B (by omega) (by omega)]
  · show (t 285 0).toInt = _
    rw [m3 285 0 (by omega) (by omega)]
    show q_g (q_u s2 285 0 0) 285 0 = 0
    rw [q_gu_eq rfl]
    rfl
  · refine Big_act B hb (s2 := q_u s2 285 0 0) (t := t) (fun k z hz hk => ?_) m2 m3 m4 m5 h3 h4 h5 h6
    rw [q_u_n (by unfold relz relc at hz; omega), h2 k z hz hk]
theorem inv_rows (I : Inv m b) : ∀ q, 0 ≤ q → q < 48 → 0 ≤ pg m q 1 ∧ pg m q 1 ≤ 6 := fun q q0 q1 => by
  by_cases e2 : q < 2
  · have h1 := I.1.1
    rcases (show q = 0 ∨ q = 1 by omega) with e | e
    · rw [e]
      omega
    · rw [e]
      omega
  · exact ⟨(I.1.2.1 q (by omega) q1).2.1, (I.1.2.1 q (by omega) q1).2.2.1⟩
theorem RB_chg0 (H : RB m s 7) (I : Inv m b) : RB (up m 8 0) (q_u s 7 5 0) 7 := by
  refine RB_up2 H (fun q q0 q1 => (inv_rows I q q0 q1).2) (fun p w p0 p1 w0 w1 => up_ne (by omega)) (fun k k0 k1 => q_u_f (by omega)) (fun r r0 r1 => ?_) ⟨?_, fun k k0 k1 => ?_⟩ ⟨?_, ?_, ?_, ?_, ?_, ?_⟩ ⟨?_, fun a w a0 a1 w0 w1 => ?_⟩
  · rw [up_ne (by omega), up_ne (by omega), q_gu_ne (by omega), q_gu_ne (by omega)]
    exact H.2.2.1 r r0 r1
  · rw [up_eq rfl, q_gu_eq rfl]
    rfl
  · rw [up_eq rfl] at k1
    omega
  · rw [up_ne (by omega), q_gu_ne (by omega)]
    exact rb_risk H
  · rw [up_ne (by omega), q_gu_ne (by omega)]
    exact rb_cost H
  · rw [up_ne (by omega), q_gu_ne (by omega)]
    exact rb_tick H
  · rw [up_ne (by omega), q_gu_ne (by omega)]
    exact rb_seed H
  · rw [up_ne (by omega), q_gu_ne (by omega)]
    exact rb_texts H
  · rw [up_ne (by omega), q_gu_ne (by omega)]
    exact rb_logn H
  · rw [q_gu_ne (by omega)]
    exact rb_lnx H
  · rw [up_ne (by omega)] at a1
    rw [up_ne (by omega), q_gu_ne (by omega), q_gu_ne (by omega)]
    exact rb_log H a0 a1 w0 w1
theorem Inv_chg0 (I : Inv m b) : Inv (up m 8 0) b := by
  have ez : ∀ z, z ≠ 8 → up m 8 0 z = m z := fun z hz => up_ne hz
  refine Inv_upd I (fun p w p0 p1 w0 w1 => ez _ (by omega)) (fun r r0 r1 hv => Or.inl ?_) (fun r r0 r1 => ?_) ?_ ?_
  · rw [ez _ (by omega)] at hv
    exact ⟨hv, ez _ (by omega), ez _ (by omega)⟩
  · rw [ez _ (by omega)]
    exact I.2.2.2 r r0 r1
  · rw [up_eq rfl]
    exact ⟨by omega, by omega, fun k k0 k1 => by omega⟩
  · rw [ez 0 (by omega), ez 3 (by omega), ez 4 (by omega), ez 5 (by omega), ez 6 (by omega)]
    exact I.2.2.1
noncomputable def MwF (w v : Nat → Int → Int32) : Prop := ∀ k z, ¬ (292 ≤ k ∧ k ≤ 306) → ¬ (k = 285 ∧ (z = 19 ∨ z = 25 ∨ z = 26 ∨ z = 29 ∨ z = 34 ∨ z = 35 ∨ z = 36 ∨ z = 39)) → v k z = w k z
theorem mm_waiting (I : Inv m b) (em : q_g s 286 = m) {n : Int} (hn : m 8 = n) : ∃ w, EV (d + 1) 279 0 [.ref 285, .null] [] (q_h L xs s O c) = ex_back EV (d + 1) 279 67 [.ref 285, .int (q_I n)] [] [] (EV (d) 278 0 [.ref 285, .null] [] (q_h L xs (w) O c)) ∧ PlW m n (fun i => m (17 + 2 * i)) (fun i => m (18 + 2 * i)) w ∧ ∀ k z, k ≠ 292 → k ≠ 293 → ¬ (k = 285 ∧ z = 19) → w k z = s k z := by
  have i8 := I.2.1
  rw [hn] at i8
  have g8 : q_g s 286 8 = n := by rw [em, hn]
  obtain ⟨w, w1, w2, w3⟩ := q_for (fun i t => EV (d + 1) 279 13 [.ref 285, .int (q_I (i))] [] (q_h L xs (t) O c)) (fun i t => (∀ j, 0 ≤ j → j < i → q_g t 292 j = m (17 + 2 * j) ∧ q_g t 293 j = m (18 + 2 * j)) ∧ ∀ k z, k ≠ 292 → k ≠ 293 → t k z = q_u s 285 19 n k z) (lo := 0) (hi := n) i8.1 (fun i t i0 i1 P => by
      obtain ⟨P1, P2⟩ := P
      have g19 : q_g t 285 19 = n := by
        show (t 285 19).toInt = n
        rw [P2 285 19 (by omega) (by omega)]
        show q_g (q_u s 285 19 n) 285 19 = n
        rw [q_gu_eq rfl, q_sg_id (by omega) (by omega)]
      have g : ∀ z, q_g t 286 z = m z := fun z => by
        rw [← em]
        show (t 286 z).toInt = _
        rw [P2 286 z (by omega) (by omega), q_u_n (by omega)]
        rfl
      have e1 := g (17 + 2 * i)
      have e2 : q_g (q_u t 292 i (m (17 + 2 * i))) 286 (17 + 2 * i + 1) = m (18 + 2 * i) := by
        rw [q_gu_ne (by omega), g, show 17 + 2 * i + 1 = 18 + 2 * i by omega]
      have r := i8.2.2 i i0 i1
      refine ⟨q_u (q_u t 292 i (m (17 + 2 * i))) 293 i (m (18 + 2 * i)), ?_, fun j j0 j1 => ?_, fun k z a1 a2 => by rw [q_u_n (by omega), q_u_n (by omega), P2 k z a1 a2]⟩
      · show EV (d + 1) 279 13 [.ref 285, .int (q_I (i))] [] (q_h L xs (t) O c) = EV (d + 1) 279 13 [.ref 285, .int (q_I (i + 1))] [] (q_h L xs (q_u (q_u t 292 i (m (17 + 2 * i))) 293 i (m (18 + 2 * i))) O c)
        rw [R_279_13 (x1 := i)]
        simp (disch := first | omega | exact q_b_01 _) only [↓reduceIte, q_bk0, q_bk1, q_bk2, q_sg_b, q_b_0, q_b_n0, q_b_1, q_b_n1, q_b_T, q_b_F, q_sg_g, q_sg_sg, q_sg_xs, q_sg_id, q_gu_ne, q_gu_eq, q_g_fne, q_g_cpe, q_w_f, q_v_f, q_u_f, q_fn_f, q_cp_f, q_sg_pg, q_sg_hc, q_lt_t, q_lt_f, q_le_t, q_le_f, q_eq_t, q_eq_f, ne_eq, eq_self, Bool.false_eq_true, Bool.true_eq_false, not_true_eq_false, not_false_eq_true, true_and, and_true, false_and, and_false, true_or, or_true, false_or, or_false, if_true, if_false, Int.reduceAdd, Int.reduceMul, Int.reduceSub, Int.reduceNeg, g19, e1, e2, R_279_21, R_279_37, R_279_38, R_279_56, R_279_57]
      · by_cases e : j = i
        · rw [e]
          exact ⟨by rw [q_gu_ne (by omega), q_gu_eq rfl, q_sg_id (by omega) (by omega)], by rw [q_gu_eq rfl, q_sg_id (by omega) (by omega)]⟩
        · obtain ⟨y1, y2⟩ := P1 j j0 (by omega)
          exact ⟨by rw [q_gu_ne (by omega), q_gu_ne (by omega)]; exact y1, by rw [q_gu_ne (by omega), q_gu_ne (by omega)]; exact y2⟩) (t := q_u s 285 19 n) ⟨fun j j0 j1 => by omega, fun _ _ _ _ => rfl⟩
  have g19 : q_g w 285 19 = n := by
    show (w 285 19).toInt = n
    rw [w3 285 19 (by omega) (by omega)]
    show q_g (q_u s 285 19 n) 285 19 = n
    rw [q_gu_eq rfl, q_sg_id (by omega) (by omega)]
  refine ⟨w, ?_, ⟨?_, g19, w2⟩, fun k z a1 a2 a3 => by rw [w3 k z a1 a2, q_u_n (by omega)]⟩
  · rw [R_279_0, g8, R_279_8, R_279_11]
    refine w1.trans ?_
    show EV (d + 1) 279 13 [.ref 285, .int (q_I (n))] [] (q_h L xs (w) O c) = _
    rw [R_279_13]
    simp (disch := first | omega | exact q_b_01 _) only [↓reduceIte, q_bk0, q_bk1, q_bk2, q_sg_b, q_b_0, q_b_n0, q_b_1, q_b_n1, q_b_T, q_b_F, q_sg_g, q_sg_sg, q_sg_xs, q_sg_id, q_gu_ne, q_gu_eq, q_g_fne, q_g_cpe, q_w_f, q_v_f, q_u_f, q_fn_f, q_cp_f, q_sg_pg, q_sg_hc, q_lt_t, q_lt_f, q_le_t, q_le_f, q_eq_t, q_eq_f, ne_eq, eq_self, Bool.false_eq_true, Bool.true_eq_false, not_true_eq_false, not_false_eq_true, true_and, and_true, false_and, and_false, true_or, or_true, false_or, or_false, if_true, if_false, Int.reduceAdd, Int.reduceMul, Int.reduceSub, Int.reduceNeg, g19, R_279_63]
    rw [C_279_64]
  · rw [← em]
    exact funext fun z => by
      show (w 286 z).toInt = _
      rw [w3 286 z (by omega) (by omega), q_u_n (by omega)]
      rfl
theorem planW (B : Big b s) (hb : b < 2147483646) (em : q_g s 286 = m) :
    (∃ u, EV (d + 16) 191 0 [.ref 1] [] (q_h L xs s O c) = some (.inl (some (.int (q_I (0)))), q_h L xs (u) O c) ∧ q_g u 241 10 = 0 ∧ PlnF s u ∧ ∀ (w : Nat → Int → Int32) (d : Nat) (O : Nat → Int64) (c : Bool × Nat × Nat), q_g w 286 = m → ∃ v, EV (d + 19) 279 0 [.ref 285, .null] [] (q_h L xs (w) O c) = some (.inl none, q_h L xs (v) O c) ∧ q_g v 285 36 = 0 ∧ q_g v 285 39 = 0 ∧ MwF w v) ∨
    (∃ u, EV (d + 16) 191 0 [.ref 1] [] (q_h L xs s O c) = some (.inl (some (.int (q_I (-1)))), q_h L xs (u) O c) ∧ PlnF s u ∧ ∀ (w : Nat → Int → Int32) (d : Nat) (O : Nat → Int64) (c : Bool × Nat × Nat), q_g w 286 = m → ∃ v, EV (d + 19) 279 0 [.ref 285, .null] [] (q_h L xs (w) O c) = some (.inl none, q_h L xs (v) O c) ∧ q_g v 285 36 = 1 ∧ q_g v 285 39 = 0 ∧ MwF w v) ∨
    (∃ T Lf sc u, PlO m b T Lf sc ∧ EV (d + 16) 191 0 [.ref 1] [] (q_h L xs s O c) = some (.inl (some (.int (q_I (cNo T + sc + 1)))), q_h L xs (u) O c) ∧ PlanC m T Lf sc u ∧ PlnF s u ∧ ∀ (w : Nat → Int → Int32) (d : Nat) (O : Nat → Int64) (c : Bool × Nat × Nat), q_g w 286 = m → ∃ v, EV (d + 19) 279 0 [.ref 285, .null] [] (q_h L xs (w) O c) = some (.inl none, q_h L xs (v) O c) ∧ q_g v 285 36 = 0 ∧ PlanM m T Lf sc v ∧ MwF w v) := by
  have H := B.1.1
  have I := B.1.2.1
  rw [em] at H I
  have i8 := I.2.1
  have c5 := rb_chg H
  have key := both_make (d := d) (L := L) (xs := xs) (s := s) (O := O) (c := c) (n := m 8) (x2 := 18) (x3 := 19) H I em hb ly_a18 ly_a19 (by decide) (by decide) (by omega) (by omega) i8.1 i8.2.1 i8.2.1 i8.2.1 (fun i i0 i1 => by
    rw [rb_ck H i0 i1, rb_cv H i0 i1]
    exact i8.2.2 i i0 i1)
  have tr : ∀ w, PlW m (m 8) (fun i => m (17 + 2 * i)) (fun i => m (18 + 2 * i)) w → PlW m (m 8) (q_g s 18) (q_g s 19) w := fun w hw => ⟨hw.1, hw.2.1, fun i i0 i1 => by rw [rb_ck H i0 i1, rb_cv H i0 i1]; exact hw.2.2 i i0 i1⟩
  have pc : ∀ v u, EV (d + 15) 86 0 [.ref 241, .ref 7, .ref 18, .ref 19, .int (q_I (m 8)), .null] [] (q_h L xs s O c) = some (.inl (some (.int (q_I (v)))), q_h L xs (u) O c) → EV (d + 16) 191 0 [.ref 1] [] (q_h L xs s O c) = some (.inl (some (.int (q_I (v)))), q_h L xs (u) O c) := fun v u h => by
    simp (disch := first | omega | exact q_b_01 _) only [↓reduceIte, q_bk0, q_bk1, q_bk2, q_sg_b, q_b_0, q_b_n0, q_b_1, q_b_n1, q_b_T, q_b_F, q_sg_g, q_sg_sg, q_sg_xs, q_sg_id, q_gu_ne, q_gu_eq, q_g_fne, q_g_cpe, q_w_f, q_v_f, q_u_f, q_fn_f, q_cp_f, q_sg_pg, q_sg_hc, q_lt_t, q_lt_f, q_le_t, q_le_f, q_eq_t, q_eq_f, ne_eq, eq_self, Bool.false_eq_true, Bool.true_eq_false, not_true_eq_false, not_false_eq_true, true_and, and_true, false_and, and_false, true_or, or_true, false_or, or_false, if_true, if_false, Int.reduceAdd, Int.reduceMul, Int.reduceSub, Int.reduceNeg, c5, h, R_191_0, R_191_32, C_191_29]
  have fw : ∀ {w w' v : Nat → Int → Int32}, (∀ k z, k ≠ 292 → k ≠ 293 → ¬ (k = 285 ∧ z = 19) → w' k z = w k z) → MpF w' v → MwF w v := fun {w w' v} h1 h2 k z a1 a2 => by rw [h2 k z (by omega) (by omega), h1 k z (by omega) (by omega) (by omega)]
  rcases key with ⟨u, u1, u2, u3, u4⟩ | ⟨u, u1, u3, u4⟩ | ⟨T, Lf, sc, u, u0, u1, u2, u3, u4⟩
  · refine Or.inl ⟨u, pc _ _ u1, u2, u3, fun w d O c ew => ?_⟩
    obtain ⟨w', w1, w2, w3⟩ := mm_waiting (d := d + 18) (L := L) (xs := xs) (s := w) (O := O) (c := c) I ew rfl
    obtain ⟨v, v1, v2, v3, v4⟩ := u4 w' d O c (tr w' w2)
    refine ⟨v, ?_, v2, v3, fw w3 v4⟩
    rw [w1, v1]
    simp (disch := first | omega | exact q_b_01 _) only [↓reduceIte, q_bk0, q_bk1, q_bk2, q_sg_b, q_b_0, q_b_n0, q_b_1, q_b_n1, q_b_T, q_b_F, q_sg_g, q_sg_sg, q_sg_xs, q_sg_id, q_gu_ne, q_gu_eq, q_g_fne, q_g_cpe, q_w_f, q_v_f, q_u_f, q_fn_f, q_cp_f, q_sg_pg, q_sg_hc, q_lt_t, q_lt_f, q_le_t, q_le_f, q_eq_t, q_eq_f, ne_eq, eq_self, Bool.false_eq_true, Bool.true_eq_false, not_true_eq_false, not_false_eq_true, true_and, and_true, false_and, and_false, true_or, or_true, false_or, or_false, if_true, if_false, Int.reduceAdd, Int.reduceMul, Int.reduceSub, Int.reduceNeg, R_279_67]
  · refine Or.inr (Or.inl ⟨u, pc _ _ u1, u3, fun w d O c ew => ?_⟩)
    obtain ⟨w', w1, w2, w3⟩ := mm_waiting (d := d + 18) (L := L) (xs := xs) (s := w) (O := O) (c := c) I ew rfl
    obtain ⟨v, v1, v2, v3, v4⟩ := u4 w' d O c (tr w' w2)
    refine ⟨v, ?_, v2, v3, fw w3 v4⟩
    rw [w1, v1]
    simp (disch := first | omega | exact q_b_01 _) only [↓reduceIte, q_bk0, q_bk1, q_bk2, q_sg_b, q_b_0, q_b_n0, q_b_1, q_b_n1, q_b_T, q_b_F, q_sg_g, q_sg_sg, q_sg_xs, q_sg_id, q_gu_ne, q_gu_eq, q_g_fne, q_g_cpe, q_w_f, q_v_f, q_u_f, q_fn_f, q_cp_f, q_sg_pg, q_sg_hc, q_lt_t, q_lt_f, q_le_t, q_le_f, q_eq_t, q_eq_f, ne_eq, eq_self, Bool.false_eq_true, Bool.true_eq_false, not_true_eq_false, not_false_eq_true, true_and, and_true, false_and, and_false, true_or, or_true, false_or, or_false, if_true, if_false, Int.reduceAdd, Int.reduceMul, Int.reduceSub, Int.reduceNeg, R_279_67]
  · refine Or.inr (Or.inr ⟨T, Lf, sc, u, u0, pc _ _ u1, u2, u3, fun w d O c ew => ?_⟩)
    obtain ⟨w', w1, w2, w3⟩ := mm_waiting (d := d + 18) (L := L) (xs := xs) (s := w) (O := O) (c := c) I ew rfl
    obtain ⟨v, v1, v2, v3, v4⟩ := u4 w' d O c (tr w' w2)
    refine ⟨v, ?_, v2, v3, fw w3 v4⟩
    rw [w1, v1]
    simp (disch := first | omega | exact q_b_01 _) only [↓reduceIte, q_bk0, q_bk1, q_bk2, q_sg_b, q_b_0, q_b_n0, q_b_1, q_b_n1, q_b_T, q_b_F, q_sg_g, q_sg_sg, q_sg_xs, q_sg_id, q_gu_ne, q_gu_eq, q_g_fne, q_g_cpe, q_w_f, q_v_f, q_u_f, q_fn_f, q_cp_f, q_sg_pg, q_sg_hc, q_lt_t, q_lt_f, q_le_t, q_le_f, q_eq_t, q_eq_f, ne_eq, eq_self, Bool.false_eq_true, Bool.true_eq_false, not_true_eq_false, not_false_eq_true, true_and, and_true, false_and, and_false, true_or, or_true, false_or, or_false, if_true, if_false, Int.reduceAdd, Int.reduceMul, Int.reduceSub, Int.reduceNeg, R_279_67]
end CMT
