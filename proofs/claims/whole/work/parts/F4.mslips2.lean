/-! SLIPS; the reference: all together -/
theorem cnP_cg48 {P Q : Int → Prop} [DecidablePred P] [DecidablePred Q] (h : ∀ p, 0 ≤ p → p < 48 → (P p ↔ Q p)) {p : Int} (hp : p ≤ 48) : cnP P p = cnP Q p := by
  unfold cnP
  exact q_S_c (fun i i0 i1 => q_b_c (h i i0 (by omega)))
noncomputable def Gs (s u : Nat → Int → Int32) : Prop := ∀ k z, ¬ (k = 285 ∧ (z = 34 ∨ z = 35 ∨ z = 36)) → ¬ (301 ≤ k ∧ k ≤ 305) → u k z = s k z
/-- slip i as it will be written -/
noncomputable def SlM (m : Int → Int) (Lf : Int → Prop) (kN sc i : Int) (u : Nat → Int → Int32) : Prop :=
  q_g u 305 (16 * tp m (kN + i)) = 3 ∧ q_g u 305 (16 * tp m (kN + i) + 1) = rws (cnP (Rw m Lf (kN + sc)) 48) i 6 ∧ q_g u 305 (16 * tp m (kN + i) + 3) = (if i + 1 < sc then tp m (kN + (i + 1)) else -1) ∧ ∀ k, 0 ≤ k → k < 6 → ∀ p, 0 ≤ p → p < 48 → Rw m Lf (kN + sc) p → cnP (Rw m Lf (kN + sc)) p = 6 * i + k → q_g u 305 (16 * tp m (kN + i) + (4 + k)) = p ∧ q_g u 305 (16 * tp m (kN + i) + (10 + k)) = frN m Lf p
section MS2
variable {d L : Nat} {xs : Nat → Int32} {s u : Nat → Int → Int32} {O : Nat → Int64} {c : Bool × Nat × Nat} {m : Int → Int} {Lf : Int → Prop} {kN sc : Int}
theorem mm_slips0 (em : q_g s 286 = m) (Hl : LsOk m) (hl : LfM s Lf) {n1 : Int} : ∃ u x', EV (d + 2) 277 0 [.ref 285, .int (q_I (n1)), .null, .null, .null, .null, .null] [] (q_h L xs s O c) = EV (d + 2) 277 35 [.ref 285, .int (q_I (n1)), .int (q_I (x')), .int (q_I (0)), .null, .null, .null] [] (q_h L xs (u) O c) ∧ LfM u (fun z => Lf z ∨ z ∈ SLs m) ∧ ∀ k z, k ≠ 301 → u k z = s k z := by
  have hh := hd_01 m
  have h1 := mm_theHead (d := d) (L := L) (xs := xs) (s := s) (O := O) (c := c)
  have h2 := mm_of (d := d + 1) (L := L) (xs := xs) (s := s) (O := O) (c := c) (p := hd m) (w := 6) (by omega) (by omega) (by omega) (by omega)
  rw [em] at h1 h2
  have e2 : pg m (hd m) 6 = hc m 2 := rfl
  rw [e2] at h2
  obtain ⟨u, x', u1, u2, u3⟩ := mm_slipsC (d := d + 1) (L := L) (xs := xs) (O := O) (c := c) (n1 := n1) (SLs m) s Lf .null .null .null .null em Hl.1 hl
  refine ⟨u, x', ?_, u2, u3⟩
  simp (disch := first | omega | exact q_b_01 _) only [↓reduceIte, q_bk0, q_bk1, q_bk2, q_sg_b, q_b_0, q_b_n0, q_b_1, q_b_n1, q_b_T, q_b_F, q_sg_g, q_sg_sg, q_sg_xs, q_sg_id, q_gu_ne, q_gu_eq, q_g_fne, q_g_cpe, q_w_f, q_v_f, q_u_f, q_fn_f, q_cp_f, q_sg_pg, q_sg_hc, q_lt_t, q_lt_f, q_le_t, q_le_f, q_eq_t, q_eq_f, ne_eq, eq_self, Bool.false_eq_true, Bool.true_eq_false, not_true_eq_false, not_false_eq_true, true_and, and_true, false_and, and_false, true_or, or_true, false_or, or_false, if_true, if_false, Int.reduceAdd, Int.reduceMul, Int.reduceSub, Int.reduceNeg, h1, h2, R_277_0, C_277_2, R_277_5, C_277_7, R_277_10]
  rw [u1, R_277_33]
theorem mm_slipsF (em : q_g s 286 = m) (Hl : LsOk m) (hl : LfM s Lf) {n1 : Int} (hf : q_g s 285 36 = 1) : ∃ u, EV (d + 2) 277 0 [.ref 285, .int (q_I (n1)), .null, .null, .null, .null, .null] [] (q_h L xs s O c) = some (.inl none, q_h L xs (u) O c) ∧ q_g u 285 36 = 1 ∧ Gs s u := by
  obtain ⟨u, x', u1, u2, u3⟩ := mm_slips0 (d := d) (L := L) (xs := xs) (O := O) (c := c) (n1 := n1) em Hl hl
  obtain ⟨w, w1, w2⟩ := q_for (fun j t => EV (d + 2) 277 35 [.ref 285, .int (q_I (n1)), .int (q_I (x')), .int (q_I (j)), .null, .null, .null] [] (q_h L xs (t) O c)) (fun j t => ∀ k z, k ≠ 303 → t k z = u k z) (lo := 0) (hi := 48) (by omega) (fun j t j0 j1 P => by
      have e01 : q_g t 301 j = q_g u 301 j := by
        show (t 301 j).toInt = _
        rw [P 301 j (by omega)]
        rfl
      rcases (u2 j j0 j1).1 with lj | lj
      · refine ⟨t, ?_, P⟩
        show EV (d + 2) 277 35 [.ref 285, .int (q_I (n1)), .int (q_I (x')), .int (q_I (j)), .null, .null, .null] [] (q_h L xs (t) O c) = EV (d + 2) 277 35 [.ref 285, .int (q_I (n1)), .int (q_I (x')), .int (q_I (j + 1)), .null, .null, .null] [] (q_h L xs (t) O c)
        rw [R_277_35 (x3 := j)]
        simp (disch := first | omega | exact q_b_01 _) only [↓reduceIte, q_bk0, q_bk1, q_bk2, q_sg_b, q_b_0, q_b_n0, q_b_1, q_b_n1, q_b_T, q_b_F, q_sg_g, q_sg_sg, q_sg_xs, q_sg_id, q_gu_ne, q_gu_eq, q_g_fne, q_g_cpe, q_w_f, q_v_f, q_u_f, q_fn_f, q_cp_f, q_sg_pg, q_sg_hc, q_lt_t, q_lt_f, q_le_t, q_le_f, q_eq_t, q_eq_f, ne_eq, eq_self, Bool.false_eq_true, Bool.true_eq_false, not_true_eq_false, not_false_eq_true, true_and, and_true, false_and, and_false, true_or, or_true, false_or, or_false, if_true, if_false, Int.reduceAdd, Int.reduceMul, Int.reduceSub, Int.reduceNeg, e01, lj, R_277_0, R_277_5, R_277_10, R_277_11, R_277_16, R_277_23, R_277_29, R_277_33, R_277_41, R_277_47, R_277_50, R_277_57, R_277_63, R_277_68, R_277_75, R_277_79, R_277_89, R_277_101, R_277_102, R_277_112, R_277_115, R_277_120, R_277_129, R_277_138, R_277_151, R_277_161, R_277_180, R_277_189, R_277_192, R_277_193, R_277_194, R_277_197, R_277_204, R_277_210, R_277_216, R_277_220, R_277_226, R_277_229, R_277_235, R_277_252, R_277_256, R_277_257, R_277_258, R_277_276, R_277_282, R_277_285, R_277_286, R_277_287, R_277_297, R_277_303, R_277_307, R_277_308, R_277_310, R_277_318, R_277_325, R_277_331, C_277_2, C_277_7, C_277_26, C_277_76, C_277_98, C_277_315]
      · refine ⟨q_u t 303 j n1, ?_, fun k z hk => by rw [q_u_n (by omega), P k z hk]⟩
        show EV (d + 2) 277 35 [.ref 285, .int (q_I (n1)), .int (q_I (x')), .int (q_I (j)), .null, .null, .null] [] (q_h L xs (t) O c) = EV (d + 2) 277 35 [.ref 285, .int (q_I (n1)), .int (q_I (x')), .int (q_I (j + 1)), .null, .null, .null] [] (q_h L xs (q_u t 303 j n1) O c)
        rw [R_277_35 (x3 := j)]
        simp (disch := first | omega | exact q_b_01 _) only [↓reduceIte, q_bk0, q_bk1, q_bk2, q_sg_b, q_b_0, q_b_n0, q_b_1, q_b_n1, q_b_T, q_b_F, q_sg_g, q_sg_sg, q_sg_xs, q_sg_id, q_gu_ne, q_gu_eq, q_g_fne, q_g_cpe, q_w_f, q_v_f, q_u_f, q_fn_f, q_cp_f, q_sg_pg, q_sg_hc, q_lt_t, q_lt_f, q_le_t, q_le_f, q_eq_t, q_eq_f, ne_eq, eq_self, Bool.false_eq_true, Bool.true_eq_false, not_true_eq_false, not_false_eq_true, true_and, and_true, false_and, and_false, true_or, or_true, false_or, or_false, if_true, if_false, Int.reduceAdd, Int.reduceMul, Int.reduceSub, Int.reduceNeg, e01, lj, R_277_0, R_277_5, R_277_10, R_277_11, R_277_16, R_277_23, R_277_29, R_277_33, R_277_41, R_277_47, R_277_50, R_277_57, R_277_63, R_277_68, R_277_75, R_277_79, R_277_89, R_277_101, R_277_102, R_277_112, R_277_115, R_277_120, R_277_129, R_277_138, R_277_151, R_277_161, R_277_180, R_277_189, R_277_192, R_277_193, R_277_194, R_277_197, R_277_204, R_277_210, R_277_216, R_277_220, R_277_226, R_277_229, R_277_235, R_277_252, R_277_256, R_277_257, R_277_258, R_277_276, R_277_282, R_277_285, R_277_286, R_277_287, R_277_297, R_277_303, R_277_307, R_277_308, R_277_310, R_277_318, R_277_325, R_277_331, C_277_2, C_277_7, C_277_26, C_277_76, C_277_98, C_277_315]) (t := u) (fun _ _ _ => rfl)
  have f36 : q_g (q_u w 285 34 0) 285 36 = 1 := by
    rw [q_gu_ne (by omega)]
    show (w 285 36).toInt = 1
    rw [w2 285 36 (by omega), u3 285 36 (by omega)]
    exact hf
  have f34 : q_g (q_u w 285 34 0) 285 34 = 0 := by
    rw [q_gu_eq rfl]
    rfl
  refine ⟨q_u w 285 34 0, ?_, f36, fun k z h1 h2 => by rw [q_u_n (by omega), w2 k z (by omega), u3 k z (by omega)]⟩
  rw [u1]
  refine w1.trans ?_
  show EV (d + 2) 277 35 [.ref 285, .int (q_I (n1)), .int (q_I (x')), .int (q_I (48)), .null, .null, .null] [] (q_h L xs (w) O c) = _
  rw [R_277_35]
  simp (disch := first | omega | exact q_b_01 _) only [↓reduceIte, q_bk0, q_bk1, q_bk2, q_sg_b, q_b_0, q_b_n0, q_b_1, q_b_n1, q_b_T, q_b_F, q_sg_g, q_sg_sg, q_sg_xs, q_sg_id, q_gu_ne, q_gu_eq, q_g_fne, q_g_cpe, q_w_f, q_v_f, q_u_f, q_fn_f, q_cp_f, q_sg_pg, q_sg_hc, q_lt_t, q_lt_f, q_le_t, q_le_f, q_eq_t, q_eq_f, ne_eq, eq_self, Bool.false_eq_true, Bool.true_eq_false, not_true_eq_false, not_false_eq_true, true_and, and_true, false_and, and_false, true_or, or_true, false_or, or_false, if_true, if_false, Int.reduceAdd, Int.reduceMul, Int.reduceSub, Int.reduceNeg, R_277_63]
  rw [R_277_68]
  simp (disch := first | omega | exact q_b_01 _) only [↓reduceIte, q_bk0, q_bk1, q_bk2, q_sg_b, q_b_0, q_b_n0, q_b_1, q_b_n1, q_b_T, q_b_F, q_sg_g, q_sg_sg, q_sg_xs, q_sg_id, q_gu_ne, q_gu_eq, q_g_fne, q_g_cpe, q_w_f, q_v_f, q_u_f, q_fn_f, q_cp_f, q_sg_pg, q_sg_hc, q_lt_t, q_lt_f, q_le_t, q_le_f, q_eq_t, q_eq_f, ne_eq, eq_self, Bool.false_eq_true, Bool.true_eq_false, not_true_eq_false, not_false_eq_true, true_and, and_true, false_and, and_false, true_or, or_true, false_or, or_false, if_true, if_false, Int.reduceAdd, Int.reduceMul, Int.reduceSub, Int.reduceNeg, f36, R_277_115]
  rw [R_277_120]
  simp (disch := first | omega | exact q_b_01 _) only [↓reduceIte, q_bk0, q_bk1, q_bk2, q_sg_b, q_b_0, q_b_n0, q_b_1, q_b_n1, q_b_T, q_b_F, q_sg_g, q_sg_sg, q_sg_xs, q_sg_id, q_gu_ne, q_gu_eq, q_g_fne, q_g_cpe, q_w_f, q_v_f, q_u_f, q_fn_f, q_cp_f, q_sg_pg, q_sg_hc, q_lt_t, q_lt_f, q_le_t, q_le_f, q_eq_t, q_eq_f, ne_eq, eq_self, Bool.false_eq_true, Bool.true_eq_false, not_true_eq_false, not_false_eq_true, true_and, and_true, false_and, and_false, true_or, or_true, false_or, or_false, if_true, if_false, Int.reduceAdd, Int.reduceMul, Int.reduceSub, Int.reduceNeg, f34, R_277_331]
theorem mm_plansSlips (I : TkI m) (hL : LfI m Lf) (hS : SlI m) (Hl : LsOk m) (h0 : 0 ≤ hc m 0) (h1 : hc m 0 < 2147483646) (C : MTk m (fr0 m) kN s) (k0 : 0 ≤ kN) (kc : kN ≤ cap m) (hl : LfM s Lf) (S : ScI m (frN m Lf) kN sc) :
    (kN + sc ≤ cap m → ∃ u, EV (d + 5) 277 0 [.ref 285, .int (q_I (hc m 0 + 1)), .null, .null, .null, .null, .null] [] (q_h L xs s O c) = some (.inl none, q_h L xs (u) O c) ∧ MTk m (frN m Lf) (kN + sc) u ∧ q_g u 285 34 = sc ∧ (∀ j, 0 ≤ j → j < sc → q_g u 304 j = tp m (kN + j)) ∧ (∀ i, 0 ≤ i → i < sc → SlM m Lf kN sc i u) ∧ (∀ z, (∀ j, 0 ≤ j → j < sc → ¬ (16 * tp m (kN + j) ≤ z ∧ z < 16 * tp m (kN + j) + 16)) → u 305 z = s 305 z) ∧ Gs s u) ∧
    (cap m < kN + sc → ∃ u, EV (d + 5) 277 0 [.ref 285, .int (q_I (hc m 0 + 1)), .null, .null, .null, .null, .null] [] (q_h L xs s O c) = some (.inl none, q_h L xs (u) O c) ∧ q_g u 285 36 = 1 ∧ Gs s u) := by
  have em := C.1
  have s0 := S.1
  have s8 := S.2.1
  obtain ⟨u, x', u1, u2, u3⟩ := mm_slips0 (d := d + 3) (L := L) (xs := xs) (O := O) (c := c) (n1 := hc m 0 + 1) em Hl hl
  have C' : MTk m (fr0 m) kN u := by
    have g : ∀ k z, k ≠ 301 → q_g u k z = q_g s k z := fun k z hk => by
      show (u k z).toInt = _
      rw [u3 k z hk]
      rfl
    obtain ⟨c1, c2, c3, c4⟩ := C
    exact ⟨by rw [← c1]; exact funext fun z => g 286 z (by omega), fun p p0 p1 => by rw [g 303 p (by omega), g 302 p (by omega)]; exact c2 p p0 p1, by rw [g 285 35 (by omega)]; exact c3, by rw [g 285 36 (by omega)]; exact c4⟩
  obtain ⟨v, v1, v2, v3⟩ := mm_slipsA (d := d + 5) (L := L) (xs := xs) (O := O) (c := c) (x2 := x') (x4 := .null) (x5 := .null) (x6 := .null) (by omega) (by omega) C' u2
  have hF := FuI_N hL hS
  have hH : ∀ p, hc m 3 ≤ p → p < 48 → frN m Lf p = -1 := fun p p0 p1 => Classical.byContradiction fun q => by
    have := frN_rg hL hS Hl h0 q
    omega
  have P0 : SMl m (frN m Lf) kN v 0 (q_u v 285 34 0) := by
    obtain ⟨c1, c2, c3, c4⟩ := v2
    refine ⟨?_, by rw [q_gu_eq rfl]; rfl, fun j j0 j1 => by omega, fun k z h1 h2 h3 => q_u_n (by omega)⟩
    rw [Int.add_zero]
    exact ⟨by rw [← c1]; exact funext fun z => q_gu_ne (by omega), fun p p0 p1 => by rw [q_gu_ne (by omega), q_gu_ne (by omega)]; exact c2 p p0 p1, by rw [q_gu_ne (by omega)]; exact c3, by rw [q_gu_ne (by omega)]; exact c4⟩
  obtain ⟨j1, j2⟩ := mm_slipsL (d := d) (L := L) (xs := xs) (O := O) (c := c) (s := v) (n1 := hc m 0 + 1) (x2 := x') (x3 := 48) (x4 := .null) (x5 := .null) (x6 := .null) I hF hH k0 S sc.toNat 0 (q_u v 285 34 0) (by omega) (by omega) P0 (by omega)
  have pre : EV (d + 5) 277 0 [.ref 285, .int (q_I (hc m 0 + 1)), .null, .null, .null, .null, .null] [] (q_h L xs s O c) = EV (d + 5) 277 68 [.ref 285, .int (q_I (hc m 0 + 1)), .int (q_I (x')), .int (q_I (48)), .null, .null, .null] [] (q_h L xs (q_u v 285 34 0) O c) := by
    rw [u1, v1, R_277_63]
  constructor
  · intro hk
    obtain ⟨w, w1, ⟨w2, w3, w4, w5⟩⟩ := j1 hk
    have wr : ∀ j, 0 ≤ j → j < q_g w 285 34 → 0 ≤ q_g w 304 j ∧ q_g w 304 j < 48 := fun j j0 j1 => by
      rw [w4 j j0 (by omega)]
      have := tp_rg I (show 0 ≤ kN + j by omega) (by omega)
      omega
    obtain ⟨y, y1, y2, y3, y4⟩ := mm_slipsR (d := d + 4) (L := L) (xs := xs) (s := w) (O := O) (c := c) (x1 := hc m 0 + 1) (x2 := x') (x3 := .null) (x4 := .null) (x5 := .null) (x6 := .null) (y3 := 48) (by omega) (by omega) wr
    have gy : ∀ k z, k ≠ 305 → q_g y k z = q_g w k z := fun k z hk => by
      show (y k z).toInt = _
      rw [y4 k z hk]
      rfl
    have eR : ∀ p, 0 ≤ p → p < 48 → (RqP w p ↔ Rw m Lf (kN + sc) p) := fun p p0 p1 => by
      obtain ⟨b1, b2⟩ := w2.2.1 p p0 p1
      unfold RqP Rw
      rw [b1, b2, q_b_0]
    have facts := y2 (fun i j i0 i1 j0 j1 ne e => by
      rw [w4 i i0 (by omega), w4 j j0 (by omega)] at e
      have := tp_inj' I (by omega) (by omega) (by omega) (by omega) e
      omega)
    refine ⟨y, ?_, ?_, by rw [gy 285 34 (by omega)]; exact w3, fun j j0 j1 => by rw [gy 304 j (by omega)]; exact w4 j j0 j1, fun i i0 i1 => ?_, fun z hz => ?_, fun k z h1 h2 => by rw [y4 k z (by omega), w5 k z (by omega) (by omega) (by omega), v3 k z (by omega), u3 k z (by omega)]⟩
    · rw [pre, w1]
      exact y1
    · obtain ⟨c1, c2, c3, c4⟩ := w2
      exact ⟨by rw [← c1]; exact funext fun z => gy 286 z (by omega), fun p p0 p1 => by rw [gy 303 p (by omega), gy 302 p (by omega)]; exact c2 p p0 p1, by rw [gy 285 35 (by omega)]; exact c3, by rw [gy 285 36 (by omega)]; exact c4⟩
    · obtain ⟨f1, f2, f3, f4⟩ := facts i i0 (by omega)
      rw [w4 i i0 i1] at f1 f2 f3 f4
      rw [cnP_cg48 eR (by omega)] at f2
      refine ⟨f1, f2, ?_, fun k k0 k1 p p0 p1 hp hc => ?_⟩
      · rw [f3, w3]
        by_cases e : i + 1 < sc
        · rw [if_pos e, if_pos e, w4 (i + 1) (by omega) e]
        · rw [if_neg e, if_neg e]
      · have := f4 k k0 k1 p p0 p1 ((eR p p0 p1).mpr hp) (by rw [cnP_cg48 eR (by omega)]; exact hc)
        rw [(w2.2.1 p p0 p1).1] at this
        exact this
    · rw [y3 z (fun j j0 j1 => by rw [w4 j j0 (by omega)]; exact hz j j0 (by omega)), w5 305 z (by omega) (by omega) (by omega), v3 305 z (by omega), u3 305 z (by omega)]
  · intro hk
    obtain ⟨w, w1, w2, w3, w4, w5⟩ := j2 hk
    obtain ⟨y, y1, y2, y3, y4⟩ := mm_slipsR (d := d + 4) (L := L) (xs := xs) (s := w) (O := O) (c := c) (x1 := hc m 0 + 1) (x2 := x') (x3 := .null) (x4 := .null) (x5 := .null) (x6 := .null) (y3 := 48) (by omega) (by omega) w4
    refine ⟨y, ?_, ?_, fun k z h1 h2 => by rw [y4 k z (by omega), w5 k z (by omega) (by omega) (by omega), v3 k z (by omega), u3 k z (by omega)]⟩
    · rw [pre, w1]
      exact y1
    · show (y 285 36).toInt = 1
      rw [y4 285 36 (by omega)]
      exact w2
end MS2
