/-! THE REFERENCE: a change of the draft -/
noncomputable def MSt (s : Nat → Int → Int32) (T : Option Tr) (Lf : Int → Prop) (i : Int) : Prop := 48 ≤ q_g s 285 25 ∧ LfM s Lf ∧ PTo T ∧ q_g s 285 25 + pot 1 T ≤ 186 + i ∧ (T = none → q_g s 285 26 = -1) ∧ ∀ t, T = some t → Sub (dM s) (q_g s 285 25) t (q_g s 285 26)
/-- what a change leaves as it was -/
noncomputable def FMc (s u : Nat → Int → Int32) : Prop := ∀ k z, ¬ (294 ≤ k ∧ k ≤ 301) → ¬ (k = 285 ∧ (z = 25 ∨ z = 26 ∨ z = 29)) → u k z = s k z
section MCH
variable {d L : Nat} {xs : Nat → Int32} {s u : Nat → Int → Int32} {O : Nat → Int64} {c : Bool × Nat × Nat} {key v i : Int} {T : Option Tr} {t : Tr} {h : Nat} {Lf Lg : Int → Prop}
theorem MSt_keep (C : MSt s T Lf i) (e : ∀ k z, k ≠ 299 → k ≠ 300 → u k z = s k z) (hg : ∀ z, Lf z ↔ Lg z) (hd : dT key v T = T) : MSt u (dT key v T) Lg (i + 1) := by
  obtain ⟨c1, c3, c4, c5, c6, c7⟩ := C
  have g : ∀ k z, k ≠ 299 → k ≠ 300 → q_g u k z = q_g s k z := fun k z h1 h2 => by
    show (u k z).toInt = _
    rw [e k z h1 h2]
    rfl
  have eD : dM u = dM s := dM_c (fun k a1 a2 => funext fun z => e k z (by omega) (by omega))
  rw [hd]
  refine ⟨by rw [g 285 25 (by omega) (by omega)]; exact c1, LfM_iff (LfM_sm c3 (fun z _ => e 301 z (by omega) (by omega))) hg, c4, by rw [g 285 25 (by omega) (by omega)]; omega, fun h => by rw [g 285 26 (by omega) (by omega)]; exact c6 h, fun t ht => by rw [eD, g 285 25 (by omega) (by omega), g 285 26 (by omega) (by omega)]; exact c7 t ht⟩
theorem mm_putNone (k0 : 0 ≤ key) (k1 : key < 100) (v0 : 0 ≤ v) (v1 : v < 100) (hr : q_g s 285 26 = -1) (N48 : 48 ≤ q_g s 285 25) (hN : q_g s 285 25 < 240) (hl : LfM s Lf) : ∃ u, EV (d + 4) 269 0 [.ref 285, .int (q_I (key)), .int (q_I (v)), .null, .null] [] (q_h L xs s O c) = some (.inl none, q_h L xs (u) O c) ∧ Sub (dM u) (q_g u 285 25) (.lf (-1) 1 (fun _ => key) (fun _ => v)) (q_g u 285 26) ∧ LfM u Lf ∧ q_g u 285 25 = q_g s 285 25 + 1 ∧ q_g u 285 29 = 1 ∧ FMc s u := by
  generalize hNN : q_g s 285 25 = N at *
  have mk := mm_newNode (d := d + 3) (L := L) (xs := xs) (O := O) (c := c) (s := s) (kind := 1) (n := N) hNN (by omega) hN
  generalize hM : q_u (q_u (q_u (q_u s 294 N 1) 295 N 0) 285 25 (N + 1)) 285 26 N = M
  have M9 : q_g M 285 25 = N + 1 := by rw [← hM, q_gu_ne (by omega), q_gu_eq rfl, q_sg_id (by omega) (by omega)]
  have M10 : q_g M 285 26 = N := by rw [← hM, q_gu_eq rfl, q_sg_id (by omega) (by omega)]
  have MN : q_g M 295 N = 0 := by rw [← hM, q_gu_ne (by omega), q_gu_ne (by omega), q_gu_eq rfl]; rfl
  obtain ⟨t3, e1, e2, e3, e4, e5⟩ := mm_insert (d := d + 2) (L := L) (xs := xs) (O := O) (c := c) (s := M) (y := N) (p := 0) (v := key) (w := v) MN (by omega) (by omega) (by omega) (by omega) (by omega)
  have g : ∀ k z, k ≠ 295 → k ≠ 296 → k ≠ 297 → q_g t3 k z = q_g M k z := fun k z h1 h2 h3 => by
    show (t3 k z).toInt = _
    rw [e5 k h1 h2 h3]
    rfl
  have g26 : q_g (q_u t3 285 29 1) 285 26 = N := by rw [q_gu_ne (by omega), g 285 26 (by decide) (by decide) (by decide), M10]
  have g25 : q_g (q_u t3 285 29 1) 285 25 = N + 1 := by rw [q_gu_ne (by omega), g 285 25 (by decide) (by decide) (by decide), M9]
  unfold Sub
  dsimp only [Rep_e1, Dis_e1, Wi_e1]
  refine ⟨q_u t3 285 29 1, ?_, ⟨⟨?_, ?_, by omega, by omega, Or.inr ⟨?_, rfl⟩, fun k z0 z1 => ⟨?_, ?_⟩⟩, trivial, fun y hy => ?_⟩, LfM_sm hl (fun z hz => ?_), g25, by rw [q_gu_eq rfl]; rfl, fun k z hk hk2 => ?_⟩
  · simp (disch := first | omega | exact q_b_01 _) only [↓reduceIte, q_bk0, q_bk1, q_bk2, q_sg_b, q_b_0, q_b_n0, q_b_1, q_b_n1, q_b_T, q_b_F, q_sg_g, q_sg_sg, q_sg_xs, q_sg_id, q_gu_ne, q_gu_eq, q_g_fne, q_g_cpe, q_w_f, q_v_f, q_u_f, q_fn_f, q_cp_f, q_sg_pg, q_sg_hc, q_lt_t, q_lt_f, q_le_t, q_le_f, q_eq_t, q_eq_f, ne_eq, eq_self, Bool.false_eq_true, Bool.true_eq_false, not_true_eq_false, not_false_eq_true, true_and, and_true, false_and, and_false, true_or, or_true, false_or, or_false, if_true, if_false, Int.reduceAdd, Int.reduceMul, Int.reduceSub, Int.reduceNeg, hr, mk, R_269_0, R_269_8, R_269_14, R_269_15, R_269_21, R_269_24, R_269_35, R_269_40, R_269_41, R_269_46, R_269_54, R_269_58, R_269_66, R_269_71, R_269_74, R_269_79, R_269_86, R_269_91, R_269_95, R_269_96, R_269_101, R_269_106, R_269_112, R_269_119, R_269_124, R_269_127, R_269_132, R_269_144, R_269_150, R_269_153, R_269_160, R_269_170, R_269_175, C_269_18, C_269_32, C_269_43, C_269_55, C_269_88, C_269_103, C_269_121, C_269_167, C_269_172]
    rw [hM]
    simp (disch := first | omega | exact q_b_01 _) only [↓reduceIte, q_bk0, q_bk1, q_bk2, q_sg_b, q_b_0, q_b_n0, q_b_1, q_b_n1, q_b_T, q_b_F, q_sg_g, q_sg_sg, q_sg_xs, q_sg_id, q_gu_ne, q_gu_eq, q_g_fne, q_g_cpe, q_w_f, q_v_f, q_u_f, q_fn_f, q_cp_f, q_sg_pg, q_sg_hc, q_lt_t, q_lt_f, q_le_t, q_le_f, q_eq_t, q_eq_f, ne_eq, eq_self, Bool.false_eq_true, Bool.true_eq_false, not_true_eq_false, not_false_eq_true, true_and, and_true, false_and, and_false, true_or, or_true, false_or, or_false, if_true, if_false, Int.reduceAdd, Int.reduceMul, Int.reduceSub, Int.reduceNeg, M10, e1, R_269_0, R_269_8, R_269_14, R_269_15, R_269_21, R_269_24, R_269_35, R_269_40, R_269_41, R_269_46, R_269_54, R_269_58, R_269_66, R_269_71, R_269_74, R_269_79, R_269_86, R_269_91, R_269_95, R_269_96, R_269_101, R_269_106, R_269_112, R_269_119, R_269_124, R_269_127, R_269_132, R_269_144, R_269_150, R_269_153, R_269_160, R_269_170, R_269_175, C_269_18, C_269_32, C_269_43, C_269_55, C_269_88, C_269_103, C_269_121, C_269_167, C_269_172]
  · show q_g (q_u t3 285 29 1) 294 _ = 1
    rw [g26, q_gu_ne (by omega), g 294 N (by decide) (by decide) (by decide), ← hM, q_gu_ne (by omega), q_gu_ne (by omega), q_gu_ne (by omega), q_gu_eq rfl]
    rfl
  · show q_g (q_u t3 285 29 1) 295 _ = 1
    rw [g26, q_gu_ne (by omega)]
    show (t3 295 N).toInt = 1
    rw [e4, setf_e rfl]
    rfl
  · show (if q_g (q_u t3 285 29 1) 285 26 < 48 then (0 : Int) else 1) = 1
    rw [g26, if_neg (by omega)]
  · have ek : k = 0 := by omega
    subst ek
    show q_g (q_u t3 285 29 1) 296 (6 * q_g (q_u t3 285 29 1) 285 26 + 0) = key
    rw [g26, q_gu_ne (by omega)]
    show (t3 296 (6 * N + 0)).toInt = key
    rw [e2, insf_same (by omega) (by omega) (by omega), inz_eq rfl]
    exact q_sg_id (by omega) (by omega)
  · have ek : k = 0 := by omega
    subst ek
    show q_g (q_u t3 285 29 1) 297 (6 * q_g (q_u t3 285 29 1) 285 26 + 0) = v
    rw [g26, q_gu_ne (by omega)]
    show (t3 297 (6 * N + 0)).toInt = v
    rw [e3, insf_same (by omega) (by omega) (by omega), inz_eq rfl]
    exact q_sg_id (by omega) (by omega)
  · have hy : y = q_g (q_u t3 285 29 1) 285 26 := hy
    rw [hy, g26, g25]
    omega
  · rw [q_u_n (by omega), e5 301 (by decide) (by decide) (by decide), ← hM, q_u_n (by omega), q_u_n (by omega), q_u_n (by omega), q_u_n (by omega)]
  · rw [q_u_n (by omega), e5 k (by omega) (by omega) (by omega), ← hM, q_u_n (by omega), q_u_n (by omega), q_u_n (by omega), q_u_n (by omega)]
theorem mm_chNo (k0 : 0 ≤ key) (k1 : key < 100) (v0 : 0 ≤ v) (v1 : v ≤ 100) (o : Okt t h 0 100) (hh : h ≤ 12) (S : Sub (dM s) (q_g s 285 25) t (q_g s 285 26)) (N48 : 48 ≤ q_g s 285 25) (hN : q_g s 285 25 + rnw 1 key t ≤ 240) (hl : LfM s Lf) (hA : ¬ dA key v (some t)) : ∃ u, EV (d + 4) 269 0 [.ref 285, .int (q_I (key)), .int (q_I (v)), .null, .null] [] (q_h L xs s O c) = some (.inl none, q_h L xs (u) O c) ∧ ∀ k z, k ≠ 299 → k ≠ 300 → u k z = s k z := by
  obtain ⟨u1, u2, y0, y, n, a, b, f1, f2, f3, f4, f5, f6, f7, S2, f8, Sl, f9, n0, n4, fQ, fV, fL, hl2, wW, wS, w29, fr1, fr2⟩ := mm_pre (d := d + 1) (L := L) (xs := xs) (O := O) (c := c) k0 k1 o hh S N48 hN hl
  have xr := S.2.2 _ (Wi_self (dM s) t (q_g s 285 26))
  have root : q_g s 285 26 ≠ -1 := by omega
  have pz := plz_ok (n := n) (a := a) (key := key) (by omega)
  refine ⟨u1, ?_, fr1⟩
  by_cases cv : v = 100
  · have hn : ¬ hasL key n a b := fun z => hA (Or.inl ⟨cv, (fQ _).mpr z⟩)
    rw [if_neg hn] at f5
    simp (disch := first | omega | exact q_b_01 _) only [↓reduceIte, q_bk0, q_bk1, q_bk2, q_sg_b, q_b_0, q_b_n0, q_b_1, q_b_n1, q_b_T, q_b_F, q_sg_g, q_sg_sg, q_sg_xs, q_sg_id, q_gu_ne, q_gu_eq, q_g_fne, q_g_cpe, q_w_f, q_v_f, q_u_f, q_fn_f, q_cp_f, q_sg_pg, q_sg_hc, q_lt_t, q_lt_f, q_le_t, q_le_f, q_eq_t, q_eq_f, ne_eq, eq_self, Bool.false_eq_true, Bool.true_eq_false, not_true_eq_false, not_false_eq_true, true_and, and_true, false_and, and_false, true_or, or_true, false_or, or_false, if_true, if_false, Int.reduceAdd, Int.reduceMul, Int.reduceSub, Int.reduceNeg, root, f1, f2, f5, cv, R_269_0, R_269_8, R_269_14, R_269_15, R_269_21, R_269_24, R_269_35, R_269_40, R_269_41, R_269_46, R_269_54, R_269_58, R_269_66, R_269_71, R_269_74, R_269_79, R_269_86, R_269_91, R_269_95, R_269_96, R_269_101, R_269_106, R_269_112, R_269_119, R_269_124, R_269_127, R_269_132, R_269_144, R_269_150, R_269_153, R_269_160, R_269_170, R_269_175, C_269_18, C_269_32, C_269_43, C_269_55, C_269_88, C_269_103, C_269_121, C_269_167, C_269_172]
  · have hn : hasL key n a b ∧ valK key t = v := Classical.byContradiction fun z => hA (Or.inr ⟨cv, fun q => z ⟨(fQ _).mp q.1, q.2⟩⟩)
    rw [if_pos hn.1] at f5
    have eB : q_g u1 297 (6 * y0 + plz n a key) = v := by rw [f6 _ pz.1 hn.1.1, ← fV, hn.2]
    simp (disch := first | omega | exact q_b_01 _) only [↓reduceIte, q_bk0, q_bk1, q_bk2, q_sg_b, q_b_0, q_b_n0, q_b_1, q_b_n1, q_b_T, q_b_F, q_sg_g, q_sg_sg, q_sg_xs, q_sg_id, q_gu_ne, q_gu_eq, q_g_fne, q_g_cpe, q_w_f, q_v_f, q_u_f, q_fn_f, q_cp_f, q_sg_pg, q_sg_hc, q_lt_t, q_lt_f, q_le_t, q_le_f, q_eq_t, q_eq_f, ne_eq, eq_self, Bool.false_eq_true, Bool.true_eq_false, not_true_eq_false, not_false_eq_true, true_and, and_true, false_and, and_false, true_or, or_true, false_or, or_false, if_true, if_false, Int.reduceAdd, Int.reduceMul, Int.reduceSub, Int.reduceNeg, root, f1, f2, f5, cv, mm_b, eB, R_269_0, R_269_8, R_269_14, R_269_15, R_269_21, R_269_24, R_269_35, R_269_40, R_269_41, R_269_46, R_269_54, R_269_58, R_269_66, R_269_71, R_269_74, R_269_79, R_269_86, R_269_91, R_269_95, R_269_96, R_269_101, R_269_106, R_269_112, R_269_119, R_269_124, R_269_127, R_269_132, R_269_144, R_269_150, R_269_153, R_269_160, R_269_170, R_269_175, C_269_18, C_269_32, C_269_43, C_269_55, C_269_88, C_269_103, C_269_121, C_269_167, C_269_172]
end MCH
