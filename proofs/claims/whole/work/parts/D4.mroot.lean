/-! THE REFERENCE: the root is mended -/
section MRT
variable {d L : Nat} {xs : Nat → Int32} {s u : Nat → Int → Int32} {O : Nat → Int64} {c : Bool × Nat × Nat} {N x lo hi : Int} {h : Nat} {t : Tr} {Lf : Int → Prop}
theorem mm_rt5 (S : Sub (dM s) N t x) (h5 : tsz t = 5) (hN : q_g s 285 25 = N) (n0 : 48 ≤ N) (n1 : N + 2 ≤ 240) (hx : q_g s 285 26 = x) : ∃ u, EV (d + 2) 268 0 [.ref 285, .null, .null] [] (q_h L xs s O c) = some (.inl none, q_h L xs (u) O c) ∧ Sub (dM u) (N + 2) (topT t) (N + 1) ∧ q_g u 285 25 = N + 2 ∧ q_g u 285 26 = N + 1 ∧ ∀ k z, ¬ (294 ≤ k ∧ k ≤ 297) → ¬ (k = 285 ∧ (z = 25 ∨ z = 26)) → u k z = s k z := by
  have xr := S.2.2 x (Wi_self (dM s) t x)
  have hR : q_g s 295 x = 5 := (Rep_sz S.1).1.trans h5
  obtain ⟨t2, b1, b3, b4, b5, b6, b7, b8⟩ := mm_splits (d := d) (L := L) (xs := xs) (O := O) (c := c) (s := s) (n := N) (y := x) hN n0 (by omega) (by omega) xr.2
  have b2 : q_g t2 285 25 = N + 1 := by
    show (t2 285 25).toInt = _
    rw [b7, setf_e rfl]
    exact q_sg_id (by omega) (by omega)
  have g26 : q_g t2 285 26 = x := by
    show (t2 285 26).toInt = _
    rw [b7, setf_n (by omega)]
    exact hx
  have mk2 := mm_newNode (d := d + 1) (L := L) (xs := xs) (O := O) (c := c) (s := t2) (kind := 2) b2 (by omega) (by omega)
  generalize hM : q_u (q_u (q_u t2 294 (N + 1) 2) 295 (N + 1) 0) 285 25 (N + 1 + 1) = M at mk2
  have M25 : q_g M 285 25 = N + 2 := by rw [← hM, q_gu_eq rfl, q_sg_id (by omega) (by omega)]; omega
  have M26 : q_g M 285 26 = x := by rw [← hM, q_gu_ne (by omega), q_gu_ne (by omega), q_gu_ne (by omega), g26]
  have MN : q_g M 295 (N + 1) = 0 := by rw [← hM, q_gu_ne (by omega), q_gu_eq rfl]; rfl
  have M5 : M 296 = t2 296 := by rw [← hM, q_u_k (by decide), q_u_k (by decide), q_u_k (by decide)]
  have M6 : M 297 = t2 297 := by rw [← hM, q_u_k (by decide), q_u_k (by decide), q_u_k (by decide)]
  have x0 : q_g M 296 (6 * x + 0) = tlst t := by
    show (M 296 (6 * x + 0)).toInt = _
    rw [M5, b5, if_neg (by omega), if_neg (by omega)]
    exact Rep_lst S.1 (by omega)
  obtain ⟨t3, e1, e2, e3, e4, e5⟩ := mm_insert (d := d) (L := L) (xs := xs) (O := O) (c := c) (s := M) (y := N + 1) (p := 0) (v := tlst t) (w := x) MN (by omega) (by omega) (by omega) (by omega) (by omega)
  have t3N : q_g t3 295 (N + 1) = 1 := by
    show (t3 295 (N + 1)).toInt = _
    rw [e4, setf_e rfl]
    rfl
  have N3 : q_g t3 296 (6 * N + 0) = tlst (lst2 t) := by
    show (t3 296 (6 * N + 0)).toInt = _
    rw [e2, insf_other (by omega) (by omega) (by omega) (by omega) (by omega) (by omega), M5, b5, if_pos (by omega)]
    exact Rep_A3 S.1 h5
  obtain ⟨t4, f1, f2, f3, f4, f5⟩ := mm_insert (d := d) (L := L) (xs := xs) (O := O) (c := c) (s := t3) (y := N + 1) (p := 1) (v := tlst (lst2 t)) (w := N) t3N (by omega) (by omega) (by omega) (by omega) (by omega)
  have tr : -2147483648 ≤ tlst t ∧ tlst t < 2147483648 := by rw [← x0]; exact q_g_rg _ _ _
  have tr2 : -2147483648 ≤ tlst (lst2 t) ∧ tlst (lst2 t) < 2147483648 := by rw [← N3]; exact q_g_rg _ _ _
  have g294 : ∀ z, q_g t4 294 z = q_g M 294 z := fun z => by
    show (t4 294 z).toInt = _
    rw [f5 294 (by decide) (by decide) (by decide), e5 294 (by decide) (by decide) (by decide)]
    rfl
  have r295 : ∀ z, z ≠ N + 1 → q_g t4 295 z = q_g t2 295 z := fun z hz => by
    show (t4 295 z).toInt = _
    rw [f4, setf_n hz, e4, setf_n hz, ← hM, q_u_n (by omega), q_u_n (by omega), q_u_n (by omega)]
    rfl
  have r296 : ∀ z k, z ≠ N + 1 → 0 ≤ k → k < 6 → q_g t4 296 (6 * z + k) = q_g t2 296 (6 * z + k) ∧ q_g t4 297 (6 * z + k) = q_g t2 297 (6 * z + k) := fun z k hz k0 k1 => by
    constructor
    · show (t4 296 (6 * z + k)).toInt = _
      rw [f2, insf_other hz (by omega) (by omega) (by omega) k0 k1, e2, insf_other hz (by omega) (by omega) (by omega) k0 k1, M5]
      rfl
    · show (t4 297 (6 * z + k)).toInt = _
      rw [f3, insf_other hz (by omega) (by omega) (by omega) k0 k1, e3, insf_other hz (by omega) (by omega) (by omega) k0 k1, M6]
      rfl
  have k294 : ∀ z, z ≠ N + 1 → q_g M 294 z = q_g t2 294 z := fun z hz => by rw [← hM, q_gu_ne (by omega), q_gu_ne (by omega), q_gu_ne (by omega)]
  have KR : q_g t4 294 (N + 1) = 2 := by
    rw [g294, ← hM, q_gu_ne (by omega), q_gu_ne (by omega), q_gu_eq rfl]
    rfl
  have RR : q_g t4 295 (N + 1) = 2 := by
    show (t4 295 (N + 1)).toInt = 2
    rw [f4, setf_e rfl]
    rfl
  have eD : dM (q_u t4 285 26 (N + 1)) = dM t4 := dM_c (fun k k0 k1 => q_u_k (by omega))
  have h26 : q_g (q_u t4 285 26 (N + 1)) 285 26 = N + 1 := by rw [q_gu_eq rfl, q_sg_id (by omega) (by omega)]
  refine ⟨q_u t4 285 26 (N + 1), ?_, ?_, ?_, h26, fun k z h1 h2 => ?_⟩
  · have KR' : q_g (q_u t4 285 26 (N + 1)) 294 (N + 1) = 2 := by rw [q_gu_ne (by omega), KR]
    have RR' : q_g (q_u t4 285 26 (N + 1)) 295 (N + 1) = 2 := by rw [q_gu_ne (by omega), RR]
    simp (disch := first | omega | exact q_b_01 _) only [↓reduceIte, q_bk0, q_bk1, q_bk2, q_sg_b, q_b_0, q_b_n0, q_b_1, q_b_n1, q_b_T, q_b_F, q_sg_g, q_sg_sg, q_sg_xs, q_sg_id, q_gu_ne, q_gu_eq, q_g_fne, q_g_cpe, q_w_f, q_v_f, q_u_f, q_fn_f, q_cp_f, q_sg_pg, q_sg_hc, q_lt_t, q_lt_f, q_le_t, q_le_f, q_eq_t, q_eq_f, ne_eq, eq_self, Bool.false_eq_true, Bool.true_eq_false, not_true_eq_false, not_false_eq_true, true_and, and_true, false_and, and_false, true_or, or_true, false_or, or_false, if_true, if_false, Int.reduceAdd, Int.reduceMul, Int.reduceSub, Int.reduceNeg, hx, hR, b1, mk2, M26, x0, e1, N3, f1, h26, KR', RR', R_268_0, R_268_9, R_268_13, R_268_21, R_268_27, R_268_40, R_268_47, R_268_56, R_268_60, R_268_65, R_268_74, R_268_77, R_268_82, R_268_90, R_268_99, R_268_103, R_268_112, R_268_116, R_268_123, R_268_126, R_268_136, R_268_146, R_268_149, R_268_152, C_268_18, C_268_24, C_268_37, C_268_44, C_268_53, C_268_57, C_268_120, C_268_143, mm_a]
  · rw [eD]
    refine nrt (D1 := dM s) S h5 (fun z hz hzx => ⟨?_, ?_, rfl, fun k k0 k1 => ?_⟩) ⟨?_, ?_, rfl, fun k k0 k1 => ?_⟩ ⟨?_, ?_, ?_, fun k k0 k1 => ?_⟩ ⟨KR, RR, ?_, ?_, ?_, ?_, ?_⟩ (by omega)
    · show q_g t4 294 z = _
      rw [g294, k294 z (by omega)]
      show (t2 294 z).toInt = _
      rw [b3, setf_n (by omega)]
      rfl
    · show q_g t4 295 z = _
      rw [r295 z (by omega)]
      show (t2 295 z).toInt = _
      rw [b4, setf_n hzx, setf_n (by omega)]
      rfl
    · obtain ⟨a1, a2⟩ := r296 z k (by omega) k0 k1
      refine ⟨a1.trans ?_, a2.trans ?_⟩
      · show (t2 296 (6 * z + k)).toInt = _
        rw [b5, if_neg (by omega), if_neg (by omega)]
        rfl
      · show (t2 297 (6 * z + k)).toInt = _
        rw [b6, if_neg (by omega), if_neg (by omega)]
        rfl
    · show q_g t4 294 x = _
      rw [g294, k294 x (by omega)]
      show (t2 294 x).toInt = _
      rw [b3, setf_n (by omega)]
      rfl
    · show q_g t4 295 x = _
      rw [r295 x (by omega)]
      show (t2 295 x).toInt = _
      rw [b4, setf_e rfl]
      rfl
    · obtain ⟨a1, a2⟩ := r296 x k (by omega) k0 (by omega)
      refine ⟨a1.trans ?_, a2.trans ?_⟩
      · show (t2 296 (6 * x + k)).toInt = _
        rw [b5, if_neg (by omega), if_neg (by omega)]
        rfl
      · show (t2 297 (6 * x + k)).toInt = _
        rw [b6, if_neg (by omega), if_neg (by omega)]
        rfl
    · show q_g t4 294 N = _
      rw [g294, k294 N (by omega)]
      show (t2 294 N).toInt = _
      rw [b3, setf_e rfl]
      rfl
    · show q_g t4 295 N = _
      rw [r295 N (by omega)]
      show (t2 295 N).toInt = _
      rw [b4, setf_n (by omega), setf_e rfl]
      rfl
    · show (if N < 48 then (0 : Int) else 1) = 1
      rw [if_neg (by omega)]
    · obtain ⟨a1, a2⟩ := r296 N k (by omega) k0 (by omega)
      refine ⟨a1.trans ?_, a2.trans ?_⟩
      · show (t2 296 (6 * N + k)).toInt = q_g s 296 (6 * x + (k + 3))
        rw [b5]
        by_cases c1 : k = 0
        · subst c1
          rw [if_pos (by omega)]
          rfl
        · have e : k = 1 := by omega
          subst e
          rw [if_neg (by omega), if_pos (by omega)]
          rfl
      · show (t2 297 (6 * N + k)).toInt = q_g s 297 (6 * x + (k + 3))
        rw [b6]
        by_cases c1 : k = 0
        · subst c1
          rw [if_pos (by omega)]
          rfl
        · have e : k = 1 := by omega
          subst e
          rw [if_neg (by omega), if_pos (by omega)]
          rfl
    · show (if N + 1 < 48 then (0 : Int) else 1) = 1
      rw [if_neg (by omega)]
    · show (t4 296 (6 * (N + 1) + 0)).toInt = _
      rw [f2, insf_same (by omega) (by omega) (by omega), inz_lt (by omega), e2, insf_same (by omega) (by omega) (by omega), inz_eq rfl]
      exact q_sg_id tr.1 tr.2
    · show (t4 297 (6 * (N + 1) + 0)).toInt = _
      rw [f3, insf_same (by omega) (by omega) (by omega), inz_lt (by omega), e3, insf_same (by omega) (by omega) (by omega), inz_eq rfl]
      exact q_sg_id (by omega) (by omega)
    · show (t4 296 (6 * (N + 1) + 1)).toInt = _
      rw [f2, insf_same (by omega) (by omega) (by omega), inz_eq rfl]
      exact q_sg_id tr2.1 tr2.2
    · show (t4 297 (6 * (N + 1) + 1)).toInt = _
      rw [f3, insf_same (by omega) (by omega) (by omega), inz_eq rfl]
      exact q_sg_id (by omega) (by omega)
  · rw [q_gu_ne (by omega)]
    show (t4 285 25).toInt = _
    rw [f5 285 (by decide) (by decide) (by decide), e5 285 (by decide) (by decide) (by decide)]
    exact M25
  · rw [q_u_n (by omega), f5 k (by omega) (by omega) (by omega), e5 k (by omega) (by omega) (by omega), ← hM, q_u_n (by omega), q_u_n (by omega), q_u_n (by omega)]
    by_cases e : k = 285
    · subst e
      rw [b7, setf_n (by omega)]
    · rw [b8 k e (by omega) (by omega) (by omega) (by omega)]
/-- the root of a changed tree is mended -/
theorem mm_mendsRoot (S : Sub (dM s) N t x) (o : OkR t h lo hi) (hN : q_g s 285 25 = N) (n0 : 48 ≤ N) (n1 : N ≤ 240) (n5 : tsz t = 5 → N + 2 ≤ 240) (hx : q_g s 285 26 = x) (hl : LfM s Lf) : ∃ u, EV (d + 2) 268 0 [.ref 285, .null, .null] [] (q_h L xs s O c) = some (.inl none, q_h L xs (u) O c) ∧ (tsz t = 5 → Sub (dM u) (N + 2) (topT t) (q_g u 285 26) ∧ LfM u Lf) ∧ (tsz t = 0 → q_g u 285 26 = -1 ∧ LfM u Lf) ∧ (tsz t ≠ 0 → tsz t ≠ 5 → Sub (dM u) N (lowT t) (q_g u 285 26) ∧ LfM u (fun z => Lf z ∨ LPg t z)) ∧ q_g u 285 25 = N + (if tsz t = 5 then 2 else 0) ∧ ∀ k z, ¬ (294 ≤ k ∧ k ≤ 297) → ¬ (k = 285 ∧ (z = 25 ∨ z = 26)) → k ≠ 301 → u k z = s k z := by
  have xr := S.2.2 x (Wi_self (dM s) t x)
  have hR : q_g s 295 x = tsz t := (Rep_sz S.1).1
  by_cases c5 : tsz t = 5
  · obtain ⟨u, u1, u2, u3, u4, u5⟩ := mm_rt5 (d := d) (L := L) (xs := xs) (O := O) (c := c) S c5 hN n0 (n5 c5) hx
    exact ⟨u, u1, fun _ => ⟨by rw [u4]; exact u2, LfM_sm hl (fun z _ => u5 301 z (by omega) (by omega))⟩, fun z => by omega, fun _ z => absurd c5 z, by rw [u3, if_pos c5], fun k z h1 h2 _ => u5 k z h1 h2⟩
  · rw [if_neg c5]
    by_cases c0 : tsz t = 0
    · have g26 : q_g (q_u s 285 26 (-1)) 285 26 = -1 := by rw [q_gu_eq rfl]; rfl
      try dsimp only [OkR_e1, OkR_e2, LPg_e1, LPg_e2]
      refine ⟨q_u s 285 26 (-1), ?_, fun z => absurd z c5, fun _ => ⟨g26, LfM_sm hl (fun z _ => q_u_n (by omega))⟩, fun z => absurd c0 z, by rw [q_gu_ne (by omega), hN]; omega, fun k z h1 h2 _ => q_u_n (by omega)⟩
      rw [c0] at hR
      simp (disch := first | omega | exact q_b_01 _) only [↓reduceIte, q_bk0, q_bk1, q_bk2, q_sg_b, q_b_0, q_b_n0, q_b_1, q_b_n1, q_b_T, q_b_F, q_sg_g, q_sg_sg, q_sg_xs, q_sg_id, q_gu_ne, q_gu_eq, q_g_fne, q_g_cpe, q_w_f, q_v_f, q_u_f, q_fn_f, q_cp_f, q_sg_pg, q_sg_hc, q_lt_t, q_lt_f, q_le_t, q_le_f, q_eq_t, q_eq_f, ne_eq, eq_self, Bool.false_eq_true, Bool.true_eq_false, not_true_eq_false, not_false_eq_true, true_and, and_true, false_and, and_false, true_or, or_true, false_or, or_false, if_true, if_false, Int.reduceAdd, Int.reduceMul, Int.reduceSub, Int.reduceNeg, hx, hR, g26, R_268_0, R_268_9, R_268_13, R_268_21, R_268_27, R_268_40, R_268_47, R_268_56, R_268_60, R_268_65, R_268_74, R_268_77, R_268_82, R_268_90, R_268_99, R_268_103, R_268_112, R_268_116, R_268_123, R_268_126, R_268_136, R_268_146, R_268_149, R_268_152, C_268_18, C_268_24, C_268_37, C_268_44, C_268_53, C_268_57, C_268_120, C_268_143]
    · have sz := OkR_sz o
      obtain ⟨u, u1, u2, u3, u4⟩ := mm_lowL (d := d + 1) (L := L) (xs := xs) (O := O) (c := c) s Lf .null .null (OkR_t o (by omega) (by omega)) (by rw [hx]; exact S) n1 hl
      try dsimp only [OkR_e1, OkR_e2, LPg_e1, LPg_e2]
      refine ⟨u, ?_, fun z => absurd z c5, fun z => absurd z c0, fun _ _ => ⟨u2, u3⟩, ?_, fun k z h1 h2 h3 => u4 k z h3 (by omega)⟩
      · simp (disch := first | omega | exact q_b_01 _) only [↓reduceIte, q_bk0, q_bk1, q_bk2, q_sg_b, q_b_0, q_b_n0, q_b_1, q_b_n1, q_b_T, q_b_F, q_sg_g, q_sg_sg, q_sg_xs, q_sg_id, q_gu_ne, q_gu_eq, q_g_fne, q_g_cpe, q_w_f, q_v_f, q_u_f, q_fn_f, q_cp_f, q_sg_pg, q_sg_hc, q_lt_t, q_lt_f, q_le_t, q_le_f, q_eq_t, q_eq_f, ne_eq, eq_self, Bool.false_eq_true, Bool.true_eq_false, not_true_eq_false, not_false_eq_true, true_and, and_true, false_and, and_false, true_or, or_true, false_or, or_false, if_true, if_false, Int.reduceAdd, Int.reduceMul, Int.reduceSub, Int.reduceNeg, hx, hR, c5, c0, R_268_0, R_268_9, R_268_13, R_268_21, R_268_27, R_268_40, R_268_47, R_268_56, R_268_60, R_268_65, R_268_74, R_268_77, R_268_90, R_268_99, R_268_103, R_268_112, R_268_116, R_268_123, R_268_126, R_268_136, R_268_146, R_268_149, R_268_152, C_268_18, C_268_24, C_268_37, C_268_44, C_268_53, C_268_57, C_268_120, C_268_143]
        exact u1
      · show (u 285 25).toInt = _
        rw [u4 285 25 (by omega) (by omega)]
        show q_g s 285 25 = _
        rw [hN]
        omega
end MRT
