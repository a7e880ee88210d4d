/-! A ROOT OF FIVE becomes two beneath a new one -/
noncomputable def topT (t : Tr) : Tr := if tsz t = 5 then .br (-1) 2 (fun k => if k = 0 then tlst t else tlst (lst2 t)) (fun k => if k = 0 then fst3 t else lst2 t) else t
section CRT
variable {d L : Nat} {xs : Nat → Int32} {s s0 s1 u : Nat → Int → Int32} {O : Nat → Int64} {c : Bool × Nat × Nat} {D1 D2 : Ar} {N x : Int} {t : Tr}
theorem nrt (S : Sub D1 N t x) (h5 : tsz t = 5) (h2 : ∀ z, z < N → z ≠ x → Row D1 D2 z) (hy : D2.K x = D1.K x ∧ D2.R x = 3 ∧ D2.fr x = D1.fr x ∧ ∀ k, 0 ≤ k → k < 3 → D2.A x k = D1.A x k ∧ D2.B x k = D1.B x k) (hN : D2.K N = D1.K x ∧ D2.R N = 2 ∧ D2.fr N = 1 ∧ ∀ k, 0 ≤ k → k < 2 → D2.A N k = D1.A x (k + 3) ∧ D2.B N k = D1.B x (k + 3)) (hR : D2.K (N + 1) = 2 ∧ D2.R (N + 1) = 2 ∧ D2.fr (N + 1) = 1 ∧ D2.A (N + 1) 0 = tlst t ∧ D2.B (N + 1) 0 = x ∧ D2.A (N + 1) 1 = tlst (lst2 t) ∧ D2.B (N + 1) 1 = N) (n2 : 2 ≤ N) : Sub D2 (N + 2) (topT t) (N + 1) := by
  obtain ⟨⟨P1, P2, P3⟩, ⟨Q1, Q2, Q3⟩, PQ⟩ := spl (D2 := D2) S h5 (fun z hz hz' => h2 z (S.2.2 z hz).2 hz') hy hN
  obtain ⟨r1, r2, r3, r4, r5, r6, r7⟩ := hR
  unfold topT
  rw [if_pos h5]
  have w0 : ∀ z, Wi D2 (fst3 t) x z → 2 ≤ z ∧ z < N := fun z hz => S.2.2 z (P3 z hz)
  have w1 : ∀ z, Wi D2 (lst2 t) N z → 2 ≤ z ∧ z < N + 1 := fun z hz => by
    rcases Q3 z hz with e | e
    · omega
    · have := S.2.2 z e
      omega
  have kid : ∀ k, 0 ≤ k → k < 2 → (k = 0 ∧ D2.B (N + 1) k = x ∧ (if k = 0 then fst3 t else lst2 t) = fst3 t) ∨ (k = 1 ∧ D2.B (N + 1) k = N ∧ (if k = 0 then fst3 t else lst2 t) = lst2 t) := fun k k0 k1 => by
    by_cases e : k = 0
    · subst e
      exact Or.inl ⟨rfl, r5, rfl⟩
    · have e : k = 1 := by omega
      subst e
      exact Or.inr ⟨rfl, r7, rfl⟩
  unfold Sub
  dsimp only [Rep_e2, Dis_e2, Wi_e2]
  refine ⟨⟨r1, r2, by omega, by omega, Or.inr ⟨r3, rfl⟩, fun k k0 k1 => ?_⟩, fun k k0 k1 => ?_, fun z hz => ?_⟩
  · rcases kid k k0 k1 with ⟨e, e1, e2⟩ | ⟨e, e1, e2⟩
    · rw [e1, e2]
      subst e
      exact ⟨r4, P1⟩
    · rw [e1, e2]
      subst e
      exact ⟨r6, Q1⟩
  · rcases kid k k0 k1 with ⟨e, e1, e2⟩ | ⟨e, e1, e2⟩
    · rw [e1, e2]
      try dsimp only [Wi_e1, Wi_e2, fst3_e1, fst3_e2, lst2_e1, lst2_e2]
      refine ⟨P2, fun hw => by have := w0 _ hw; omega, fun k' k0' k1' hk y hy hy' => ?_⟩
      rcases kid k' k0' k1' with ⟨f, f1, f2⟩ | ⟨f, f1, f2⟩
      · omega
      · rw [f1, f2] at hy'
        exact PQ y hy hy'
    · rw [e1, e2]
      try dsimp only [Wi_e1, Wi_e2, fst3_e1, fst3_e2, lst2_e1, lst2_e2]
      refine ⟨Q2, fun hw => by have := w1 _ hw; omega, fun k' k0' k1' hk y hy hy' => ?_⟩
      rcases kid k' k0' k1' with ⟨f, f1, f2⟩ | ⟨f, f1, f2⟩
      · rw [f1, f2] at hy'
        exact PQ y hy' hy
      · omega
  · rcases hz with e | ⟨k, k0, k1, hw⟩
    · omega
    · rcases kid k k0 k1 with ⟨e, e1, e2⟩ | ⟨e, e1, e2⟩
      · rw [e1, e2] at hw
        have := w0 z hw
        omega
      · rw [e1, e2] at hw
        have := w1 z hw
        omega
/-- the class splits its root -/
theorem cc_sp05 (S : Sub (dC s) (q_g s 242 9) t x) (h5 : tsz t = 5) (hN : q_g s 242 9 = N) (n0 : 48 ≤ N) (n1 : N + 2 ≤ 176) (hx : q_g s 249 0 = x) : ∃ u, EV (d + 3) 57 0 [.ref 242, .int (q_I (0)), .null, .null, .null] [] (q_h L xs s O c) = some (.inl none, q_h L xs (u) O c) ∧ Sub (dC u) (N + 2) (topT t) (N + 1) ∧ q_g u 242 9 = N + 2 ∧ q_g u 242 10 = N + 1 ∧ (∀ k z, ¬ (243 ≤ k ∧ k ≤ 247) → ¬ (k = 242 ∧ (z = 9 ∨ z = 10)) → u k z = s k z) ∧ ∀ z, z < 48 → u 247 z = s 247 z := by
  rw [hN] at S
  have xr := S.2.2 x (Wi_self (dC s) t x)
  have hR : q_g s 244 x = 5 := (Rep_sz S.1).1.trans h5
  obtain ⟨t2, b1, b2, b3, b4, b5, b6, b7, b8⟩ := cc_sp2 (d := d + 1) (L := L) (xs := xs) (O := O) (c := c) (s := s) (N := N) (y := x) (l' := 0) (v' := .null) hN n0 (by omega) xr.1 xr.2 hR
  have mk1 := cc_makeNode (d := d + 2) (L := L) (xs := xs) (O := O) (c := c) (s := s) (kind := q_g s 243 x) hN n0 (by omega)
  have mk2 := cc_makeNode (d := d + 2) (L := L) (xs := xs) (O := O) (c := c) (s := t2) (kind := 2) b2 (by omega) (by omega)
  generalize hM : q_u (q_u (q_u (q_u t2 242 9 (N + 1 + 1)) 243 (N + 1) 2) 244 (N + 1) 0) 247 (N + 1) 1 = M at mk2
  have M9 : q_g M 242 9 = N + 2 := by rw [← hM, q_gu_ne (by omega), q_gu_ne (by omega), q_gu_ne (by omega), q_gu_eq rfl, q_sg_id (by omega) (by omega)]; omega
  have MN : q_g M 244 (N + 1) = 0 := by rw [← hM, q_gu_ne (by omega), q_gu_eq rfl]; rfl
  have M5 : M 245 = t2 245 := by rw [← hM, q_u_k (by decide), q_u_k (by decide), q_u_k (by decide), q_u_k (by decide)]
  have M6 : M 246 = t2 246 := by rw [← hM, q_u_k (by decide), q_u_k (by decide), q_u_k (by decide), q_u_k (by decide)]
  have x0 : q_g M 245 (6 * x) = tlst t := by
    show (M 245 (6 * x)).toInt = _
    rw [M5, b5, if_neg (by omega), if_neg (by omega), show 6 * x = 6 * x + 0 by omega]
    exact Rep_lst S.1 (by omega)
  obtain ⟨t3, e1, e2, e3, e4, e5⟩ := cc_insertAt (d := d + 1) (L := L) (xs := xs) (O := O) (c := c) (s := M) (x := N + 1) (k := 0) (v := tlst t) (w := x) M9 MN (by omega) (by omega) (by omega) (by omega) (by omega) (by omega)
  have t39 : q_g t3 242 9 = N + 2 := by
    show (t3 242 9).toInt = _
    rw [e5 242 (by decide) (by decide) (by decide)]
    exact M9
  have t3N : q_g t3 244 (N + 1) = 1 := by
    show (t3 244 (N + 1)).toInt = _
    rw [e4, setf_e rfl]
    rfl
  have N3 : q_g t3 245 (6 * N) = tlst (lst2 t) := by
    show (t3 245 (6 * N)).toInt = _
    rw [e2, show 6 * N = 6 * N + 0 by omega, insf_other (by omega) (by omega) (by omega) (by omega) (by omega) (by omega), M5, b5, if_pos (by omega)]
    exact Rep_A3 S.1 h5
  obtain ⟨t4, f1, f2, f3, f4, f5⟩ := cc_insertAt (d := d + 1) (L := L) (xs := xs) (O := O) (c := c) (s := t3) (x := N + 1) (k := 1) (v := tlst (lst2 t)) (w := N) t39 t3N (by omega) (by omega) (by omega) (by omega) (by omega) (by omega)
  have tr : -2147483648 ≤ tlst t ∧ tlst t < 2147483648 := by rw [← x0]; exact q_g_rg _ _ _
  have tr2 : -2147483648 ≤ tlst (lst2 t) ∧ tlst (lst2 t) < 2147483648 := by rw [← N3]; exact q_g_rg _ _ _
  have g243 : ∀ z, q_g t4 243 z = q_g M 243 z := fun z => by
    show (t4 243 z).toInt = _
    rw [f5 243 (by decide) (by decide) (by decide), e5 243 (by decide) (by decide) (by decide)]
    rfl
  have g247 : ∀ z, t4 247 z = M 247 z := fun z => by rw [f5 247 (by decide) (by decide) (by decide), e5 247 (by decide) (by decide) (by decide)]
  have r244 : ∀ z, z ≠ N + 1 → q_g t4 244 z = q_g t2 244 z := fun z hz => by
    show (t4 244 z).toInt = _
    rw [f4, setf_n hz, e4, setf_n hz, ← hM, q_u_n (by omega), q_u_n (by omega), q_u_n (by omega), q_u_n (by omega)]
    rfl
  have r245 : ∀ z k, z ≠ N + 1 → 0 ≤ k → k < 6 → q_g t4 245 (6 * z + k) = q_g t2 245 (6 * z + k) ∧ q_g t4 246 (6 * z + k) = q_g t2 246 (6 * z + k) := fun z k hz k0 k1 => by
    constructor
    · show (t4 245 (6 * z + k)).toInt = _
      rw [f2, insf_other hz (by omega) (by omega) (by omega) k0 k1, e2, insf_other hz (by omega) (by omega) (by omega) k0 k1, M5]
      rfl
    · show (t4 246 (6 * z + k)).toInt = _
      rw [f3, insf_other hz (by omega) (by omega) (by omega) k0 k1, e3, insf_other hz (by omega) (by omega) (by omega) k0 k1, M6]
      rfl
  have k243 : ∀ z, z ≠ N + 1 → q_g M 243 z = q_g t2 243 z := fun z hz => by rw [← hM, q_gu_ne (by omega), q_gu_ne (by omega), q_gu_ne (by omega), q_gu_ne (by omega)]
  have k247 : ∀ z, z ≠ N + 1 → M 247 z = t2 247 z := fun z hz => by rw [← hM, q_u_n (by omega), q_u_n (by omega), q_u_n (by omega), q_u_n (by omega)]
  have eD : dC (q_u t4 242 10 (N + 1)) = dC t4 := dC_c (fun k k0 k1 => q_u_k (by omega))
  refine ⟨q_u t4 242 10 (N + 1), ?_, ?_, ?_, ?_, fun k z h1 h2 => ?_, fun z hz => ?_⟩
  · have ex : q_g M 245 (x * 6) = tlst t := by rw [show x * 6 = 6 * x by omega, x0]
    have eN : q_g t3 245 (N * 6) = tlst (lst2 t) := by rw [show N * 6 = 6 * N by omega, N3]
    simp (disch := first | omega | exact q_b_01 _) only [↓reduceIte, q_bk0, q_bk1, q_bk2, q_sg_b, q_b_0, q_b_n0, q_b_1, q_b_n1, q_b_T, q_b_F, q_sg_g, q_sg_sg, q_sg_xs, q_sg_id, q_gu_ne, q_gu_eq, q_g_fne, q_g_cpe, q_w_f, q_v_f, q_u_f, q_fn_f, q_cp_f, q_sg_pg, q_sg_hc, q_lt_t, q_lt_f, q_le_t, q_le_f, q_eq_t, q_eq_f, ne_eq, eq_self, Bool.false_eq_true, Bool.true_eq_false, not_true_eq_false, not_false_eq_true, true_and, and_true, false_and, and_false, true_or, or_true, false_or, or_false, if_true, if_false, Int.reduceAdd, Int.reduceMul, Int.reduceSub, Int.reduceNeg, hx, hR, mk1, R_57_0, R_57_6, R_57_11, R_57_23, R_57_34, R_57_44, R_57_45, R_57_51, R_57_55, R_57_56, R_57_66, R_57_72, R_57_84, R_57_87, R_57_94, R_57_112, R_57_127, R_57_133, R_57_144, R_57_153, R_57_161, R_57_172, R_57_176, R_57_177, R_57_182, R_57_190, R_57_203, R_57_207, R_57_220, R_57_224, R_57_230, C_57_63, C_57_124, C_57_173, C_57_179, C_57_204, C_57_221]
    rw [b1, R_57_140]
    simp (disch := first | omega | exact q_b_01 _) only [↓reduceIte, q_bk0, q_bk1, q_bk2, q_sg_b, q_b_0, q_b_n0, q_b_1, q_b_n1, q_b_T, q_b_F, q_sg_g, q_sg_sg, q_sg_xs, q_sg_id, q_gu_ne, q_gu_eq, q_g_fne, q_g_cpe, q_w_f, q_v_f, q_u_f, q_fn_f, q_cp_f, q_sg_pg, q_sg_hc, q_lt_t, q_lt_f, q_le_t, q_le_f, q_eq_t, q_eq_f, ne_eq, eq_self, Bool.false_eq_true, Bool.true_eq_false, not_true_eq_false, not_false_eq_true, true_and, and_true, false_and, and_false, true_or, or_true, false_or, or_false, if_true, if_false, Int.reduceAdd, Int.reduceMul, Int.reduceSub, Int.reduceNeg, mk2, ex, e1, eN, f1, R_57_0, R_57_6, R_57_11, R_57_23, R_57_34, R_57_44, R_57_45, R_57_51, R_57_55, R_57_56, R_57_66, R_57_72, R_57_84, R_57_87, R_57_94, R_57_112, R_57_127, R_57_133, R_57_144, R_57_153, R_57_161, R_57_172, R_57_176, R_57_177, R_57_182, R_57_190, R_57_203, R_57_207, R_57_220, R_57_224, R_57_230, C_57_63, C_57_124, C_57_173, C_57_179, C_57_204, C_57_221]
  · rw [eD]
    refine nrt (D1 := dC s) S h5 (fun z hz hzx => ⟨?_, ?_, ?_, fun k k0 k1 => ?_⟩) ⟨?_, ?_, ?_, fun k k0 k1 => ?_⟩ ⟨?_, ?_, ?_, fun k k0 k1 => ?_⟩ ⟨?_, ?_, ?_, ?_, ?_, ?_, ?_⟩ (by omega)
    · show q_g t4 243 z = _
      rw [g243, k243 z (by omega)]
      show (t2 243 z).toInt = _
      rw [b3, setf_n (by omega)]
      rfl
    · show q_g t4 244 z = _
      rw [r244 z (by omega)]
      show (t2 244 z).toInt = _
      rw [b4, setf_n hzx, setf_n (by omega)]
      rfl
    · show (t4 247 z).toInt = _
      rw [g247, k247 z (by omega), b7, setf_n (by omega)]
      rfl
    · obtain ⟨a1, a2⟩ := r245 z k (by omega) k0 k1
      refine ⟨a1.trans ?_, a2.trans ?_⟩
      · show (t2 245 (6 * z + k)).toInt = _
        rw [b5, if_neg (by omega), if_neg (by omega)]
        rfl
      · show (t2 246 (6 * z + k)).toInt = _
        rw [b6, if_neg (by omega), if_neg (by omega)]
        rfl
    · show q_g t4 243 x = _
      rw [g243, k243 x (by omega)]
      show (t2 243 x).toInt = _
      rw [b3, setf_n (by omega)]
      rfl
    · show q_g t4 244 x = _
      rw [r244 x (by omega)]
      show (t2 244 x).toInt = _
      rw [b4, setf_e rfl]
      rfl
    · show (t4 247 x).toInt = _
      rw [g247, k247 x (by omega), b7, setf_n (by omega)]
      rfl
    · obtain ⟨a1, a2⟩ := r245 x k (by omega) k0 (by omega)
      refine ⟨a1.trans ?_, a2.trans ?_⟩
      · show (t2 245 (6 * x + k)).toInt = _
        rw [b5, if_neg (by omega), if_neg (by omega)]
        rfl
      · show (t2 246 (6 * x + k)).toInt = _
        rw [b6, if_neg (by omega), if_neg (by omega)]
        rfl
    · show q_g t4 243 N = _
      rw [g243, k243 N (by omega)]
      show (t2 243 N).toInt = _
      rw [b3, setf_e rfl]
      rfl
    · show q_g t4 244 N = _
      rw [r244 N (by omega)]
      show (t2 244 N).toInt = _
      rw [b4, setf_n (by omega), setf_e rfl]
      rfl
    · show (t4 247 N).toInt = _
      rw [g247, k247 N (by omega), b7, setf_e rfl]
      rfl
    · obtain ⟨a1, a2⟩ := r245 N k (by omega) k0 (by omega)
      refine ⟨a1.trans ?_, a2.trans ?_⟩
      · show (t2 245 (6 * N + k)).toInt = q_g s 245 (6 * x + (k + 3))
        rw [b5]
        by_cases c1 : k = 0
        · subst c1
          rw [if_pos (by omega)]
          rfl
        · have e : k = 1 := by omega
          subst e
          rw [if_neg (by omega), if_pos (by omega)]
          rfl
      · show (t2 246 (6 * N + k)).toInt = q_g s 246 (6 * x + (k + 3))
        rw [b6]
        by_cases c1 : k = 0
        · subst c1
          rw [if_pos (by omega)]
          rfl
        · have e : k = 1 := by omega
          subst e
          rw [if_neg (by omega), if_pos (by omega)]
          rfl
    · show q_g t4 243 (N + 1) = 2
      rw [g243, ← hM, q_gu_ne (by omega), q_gu_ne (by omega), q_gu_eq rfl]
      rfl
    · show (t4 244 (N + 1)).toInt = 2
      rw [f4, setf_e rfl]
      rfl
    · show (t4 247 (N + 1)).toInt = 1
      rw [g247, ← hM]
      show q_g (q_u _ 247 (N + 1) 1) 247 (N + 1) = 1
      rw [q_gu_eq rfl]
      rfl
    · show (t4 245 (6 * (N + 1) + 0)).toInt = _
      rw [f2, insf_same (by omega) (by omega) (by omega), inz_lt (by omega), e2, insf_same (by omega) (by omega) (by omega), inz_eq rfl]
      exact q_sg_id tr.1 tr.2
    · show (t4 246 (6 * (N + 1) + 0)).toInt = _
      rw [f3, insf_same (by omega) (by omega) (by omega), inz_lt (by omega), e3, insf_same (by omega) (by omega) (by omega), inz_eq rfl]
      exact q_sg_id (by omega) (by omega)
    · show (t4 245 (6 * (N + 1) + 1)).toInt = _
      rw [f2, insf_same (by omega) (by omega) (by omega), inz_eq rfl]
      exact q_sg_id tr2.1 tr2.2
    · show (t4 246 (6 * (N + 1) + 1)).toInt = _
      rw [f3, insf_same (by omega) (by omega) (by omega), inz_eq rfl]
      exact q_sg_id (by omega) (by omega)
  · rw [q_gu_ne (by omega)]
    show (t4 242 9).toInt = _
    rw [f5 242 (by decide) (by decide) (by decide)]
    exact t39
  · rw [q_gu_eq rfl, q_sg_id (by omega) (by omega)]
  · rw [q_u_n (by omega), f5 k (by omega) (by omega) (by omega), e5 k (by omega) (by omega) (by omega), ← hM, q_u_n (by omega), q_u_n (by omega), q_u_n (by omega), q_u_n (by omega), b8 k z h1 (by omega)]
  · rw [q_u_n (by omega), g247, k247 z (by omega), b7, setf_n (by omega)]
end CRT
