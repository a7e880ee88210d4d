/-! THE REFERENCE: the root is lowered -/
noncomputable def LfM (s : Nat → Int → Int32) (Lf : Int → Prop) : Prop := ∀ z, 0 ≤ z → z < 48 → (q_g s 301 z = 0 ∨ q_g s 301 z = 1) ∧ (q_g s 301 z = 1 ↔ Lf z)
section MLW
variable {d L : Nat} {xs : Nat → Int32} {s u : Nat → Int → Int32} {O : Nat → Int64} {c : Bool × Nat × Nat} {N x : Int} {Lf Lg : Int → Prop}
theorem LfM_iff (h : LfM s Lf) (e : ∀ z, Lf z ↔ Lg z) : LfM s Lg := fun z z0 z1 => ⟨(h z z0 z1).1, (h z z0 z1).2.trans (e z)⟩
theorem LfM_sm (h : LfM s Lf) (e : ∀ z, z < 48 → u 301 z = s 301 z) : LfM u Lf := fun z z0 z1 => by
  have g : q_g u 301 z = q_g s 301 z := by
    show (u 301 z).toInt = _
    rw [e z z1]
    rfl
  rw [g]
  exact h z z0 z1
theorem mm_lowL : ∀ {t : Tr} {h : Nat} {lo hi : Int} (s : Nat → Int → Int32) (Lf : Int → Prop) (x1 x2 : Value), Okt t h lo hi → Sub (dM s) N t (q_g s 285 26) → N ≤ 240 → LfM s Lf → ∃ u, EV (d + 1) 268 82 [.ref 285, x1, x2] [] (q_h L xs s O c) = some (.inl none, q_h L xs (u) O c) ∧ Sub (dM u) N (lowT t) (q_g u 285 26) ∧ LfM u (fun z => Lf z ∨ LPg t z) ∧ ∀ k z, k ≠ 301 → ¬ (k = 285 ∧ z = 26) → u k z = s k z := by
  intro t
  induction t using Tr_rc with
  | lf p n a b =>
    try dsimp only [Okt_e1, Okt_e2, LPg_e1, LPg_e2] at *
    rintro h lo hi s Lf x1 x2 o S hN hl
    have xr := S.2.2 _ (Wi_self (dM s) _ (q_g s 285 26))
    have hK : q_g s 294 (q_g s 285 26) = 1 := S.1.1
    have ne : q_g s 285 26 ≠ -1 := by omega
    try dsimp only [Okt_e1, Okt_e2, LPg_e1, LPg_e2]
    refine ⟨s, ?_, S, LfM_iff hl (fun z => ⟨Or.inl, fun e => e.elim id False.elim⟩), fun _ _ _ _ => rfl⟩
    rw [R_268_82]
    simp (disch := first | omega | exact q_b_01 _) only [↓reduceIte, q_bk0, q_bk1, q_bk2, q_sg_b, q_b_0, q_b_n0, q_b_1, q_b_n1, q_b_T, q_b_F, q_sg_g, q_sg_sg, q_sg_xs, q_sg_id, q_gu_ne, q_gu_eq, q_g_fne, q_g_cpe, q_w_f, q_v_f, q_u_f, q_fn_f, q_cp_f, q_sg_pg, q_sg_hc, q_lt_t, q_lt_f, q_le_t, q_le_f, q_eq_t, q_eq_f, ne_eq, eq_self, Bool.false_eq_true, Bool.true_eq_false, not_true_eq_false, not_false_eq_true, true_and, and_true, false_and, and_false, true_or, or_true, false_or, or_false, if_true, if_false, Int.reduceAdd, Int.reduceMul, Int.reduceSub, Int.reduceNeg, ne, hK, R_268_0, R_268_9, R_268_13, R_268_21, R_268_27, R_268_40, R_268_47, R_268_56, R_268_60, R_268_65, R_268_74, R_268_77, R_268_90, R_268_99, R_268_103, R_268_112, R_268_116, R_268_123, R_268_126, R_268_136, R_268_146, R_268_149, R_268_152, C_268_18, C_268_24, C_268_37, C_268_44, C_268_53, C_268_57, C_268_120, C_268_143]
  | br p n a cc ih =>
    try dsimp only [Okt_e1, Okt_e2, LPg_e1, LPg_e2] at *
    rintro h lo hi s Lf x1 x2 ⟨h', e, n0, n1, r⟩ S hN hl
    have xr := S.2.2 _ (Wi_self (dM s) _ (q_g s 285 26))
    have hK : q_g s 294 (q_g s 285 26) = 2 := S.1.1
    have hR : q_g s 295 (q_g s 285 26) = n := (Sub_R2 S).2.1
    have ne : q_g s 285 26 ≠ -1 := by omega
    by_cases c1 : n = 1
    · subst c1
      have S0 := Sub_kid S (k := 0) (by omega) (by omega)
      have pg := (Sub_R2 S).2.2.2.2.1
      have eB : q_g s 297 (6 * q_g s 285 26 + 0) = (dM s).B (q_g s 285 26) 0 := rfl
      generalize hx : q_g s 285 26 = x at *
      have br := S0.2.2 _ (Wi_self (dM s) _ _)
      have st : ∃ s1, EV (d + 1) 268 82 [.ref 285, x1, x2] [] (q_h L xs s O c) = EV (d + 1) 268 82 [.ref 285, x1, x2] [] (q_h L xs (q_u s1 285 26 ((dM s).B x 0)) O c) ∧ LfM s1 (fun z => Lf z ∨ (p ≠ -1 ∧ z = p)) ∧ ∀ k z, k ≠ 301 → s1 k z = s k z := by
        by_cases c48 : x < 48
        · have f0 : (dM s).fr x = 0 := if_pos c48
          have ep : p = x := by
            rcases pg with ⟨f, e⟩ | ⟨f, e⟩
            · exact e
            · rw [f0] at f
              omega
          try dsimp only [Okt_e1, Okt_e2, LPg_e1, LPg_e2]
          refine ⟨q_u s 301 x 1, ?_, fun z z0 z1 => ?_, fun k z hk => q_u_n (by omega)⟩
          · have g26 : q_g (q_u s 301 x 1) 285 26 = x := by rw [q_gu_ne (by omega), hx]
            have gB : q_g (q_u s 301 x 1) 297 (6 * x + 0) = (dM s).B x 0 := by rw [q_gu_ne (by omega), eB]
            rw [R_268_82]
            simp (disch := first | omega | exact q_b_01 _) only [↓reduceIte, q_bk0, q_bk1, q_bk2, q_sg_b, q_b_0, q_b_n0, q_b_1, q_b_n1, q_b_T, q_b_F, q_sg_g, q_sg_sg, q_sg_xs, q_sg_id, q_gu_ne, q_gu_eq, q_g_fne, q_g_cpe, q_w_f, q_v_f, q_u_f, q_fn_f, q_cp_f, q_sg_pg, q_sg_hc, q_lt_t, q_lt_f, q_le_t, q_le_f, q_eq_t, q_eq_f, ne_eq, eq_self, Bool.false_eq_true, Bool.true_eq_false, not_true_eq_false, not_false_eq_true, true_and, and_true, false_and, and_false, true_or, or_true, false_or, or_false, if_true, if_false, Int.reduceAdd, Int.reduceMul, Int.reduceSub, Int.reduceNeg, hx, hK, hR, mm_isNew, g26, gB, mm_b, R_268_0, R_268_9, R_268_13, R_268_21, R_268_27, R_268_40, R_268_47, R_268_56, R_268_60, R_268_65, R_268_74, R_268_77, R_268_90, R_268_99, R_268_103, R_268_112, R_268_116, R_268_123, R_268_126, R_268_136, R_268_146, R_268_149, R_268_152, C_268_18, C_268_24, C_268_37, C_268_44, C_268_53, C_268_57, C_268_120, C_268_143]
          · by_cases ez : z = x
            · subst ez
              rw [q_gu_eq rfl]
              exact ⟨Or.inr rfl, fun _ => Or.inr ⟨by omega, ep.symm⟩, fun _ => rfl⟩
            · rw [q_gu_ne (by omega)]
              exact ⟨(hl z z0 z1).1, fun e => Or.inl ((hl z z0 z1).2.mp e), fun e => e.elim (hl z z0 z1).2.mpr (fun e => absurd (e.2.trans ep) ez)⟩
        · have f1 : (dM s).fr x = 1 := if_neg c48
          have ep : p = -1 := by
            rcases pg with ⟨f, e⟩ | ⟨f, e⟩
            · rw [f1] at f
              omega
            · exact e
          try dsimp only [Okt_e1, Okt_e2, LPg_e1, LPg_e2]
          refine ⟨s, ?_, LfM_iff hl (fun z => ⟨Or.inl, fun e => e.elim id (fun e => absurd ep e.1)⟩), fun _ _ _ => rfl⟩
          rw [R_268_82]
          simp (disch := first | omega | exact q_b_01 _) only [↓reduceIte, q_bk0, q_bk1, q_bk2, q_sg_b, q_b_0, q_b_n0, q_b_1, q_b_n1, q_b_T, q_b_F, q_sg_g, q_sg_sg, q_sg_xs, q_sg_id, q_gu_ne, q_gu_eq, q_g_fne, q_g_cpe, q_w_f, q_v_f, q_u_f, q_fn_f, q_cp_f, q_sg_pg, q_sg_hc, q_lt_t, q_lt_f, q_le_t, q_le_f, q_eq_t, q_eq_f, ne_eq, eq_self, Bool.false_eq_true, Bool.true_eq_false, not_true_eq_false, not_false_eq_true, true_and, and_true, false_and, and_false, true_or, or_true, false_or, or_false, if_true, if_false, Int.reduceAdd, Int.reduceMul, Int.reduceSub, Int.reduceNeg, hx, hK, hR, mm_isNew, eB, mm_b, R_268_0, R_268_9, R_268_13, R_268_21, R_268_27, R_268_40, R_268_47, R_268_56, R_268_60, R_268_65, R_268_74, R_268_77, R_268_90, R_268_99, R_268_103, R_268_112, R_268_116, R_268_123, R_268_126, R_268_136, R_268_146, R_268_149, R_268_152, C_268_18, C_268_24, C_268_37, C_268_44, C_268_53, C_268_57, C_268_120, C_268_143]
      obtain ⟨s1, v1, v2, v3⟩ := st
      have eD : dM (q_u s1 285 26 ((dM s).B x 0)) = dM s := dM_c (fun k a1 a2 => by rw [q_u_k (by omega)]; exact funext fun z => v3 k z (by omega))
      have g10 : q_g (q_u s1 285 26 ((dM s).B x 0)) 285 26 = (dM s).B x 0 := by rw [q_gu_eq rfl, q_sg_id (by omega) (by omega)]
      obtain ⟨u, u1, u2, u3, u4⟩ := ih 0 (q_u s1 285 26 ((dM s).B x 0)) (fun z => Lf z ∨ (p ≠ -1 ∧ z = p)) x1 x2 (r 0 (by omega) (by omega)).2.2 (by rw [eD, g10]; exact S0) hN (LfM_sm v2 (fun z _ => q_u_n (by omega)))
      try dsimp only [Okt_e1, Okt_e2, LPg_e1, LPg_e2]
      refine ⟨u, v1.trans u1, ?_, LfM_iff u3 (fun z => ?_), fun k z h1 h2 => by rw [u4 k z h1 h2, q_u_n h2, v3 k z h1]⟩
      · try dsimp only [lowT_e1, lowT_e2]
        rw [if_pos rfl]
        exact u2
      · constructor
        · rintro ((e | e) | e)
          · exact Or.inl e
          · exact Or.inr ⟨rfl, Or.inl e⟩
          · exact Or.inr ⟨rfl, Or.inr e⟩
        · rintro (e | ⟨-, e | e⟩)
          · exact Or.inl (Or.inl e)
          · exact Or.inl (Or.inr e)
          · exact Or.inr e
    · try dsimp only [Okt_e1, Okt_e2, LPg_e1, LPg_e2]
      refine ⟨s, ?_, ?_, LfM_iff hl (fun z => ⟨Or.inl, fun e => e.elim id (fun e => absurd e.1 c1)⟩), fun _ _ _ _ => rfl⟩
      · rw [R_268_82]
        simp (disch := first | omega | exact q_b_01 _) only [↓reduceIte, q_bk0, q_bk1, q_bk2, q_sg_b, q_b_0, q_b_n0, q_b_1, q_b_n1, q_b_T, q_b_F, q_sg_g, q_sg_sg, q_sg_xs, q_sg_id, q_gu_ne, q_gu_eq, q_g_fne, q_g_cpe, q_w_f, q_v_f, q_u_f, q_fn_f, q_cp_f, q_sg_pg, q_sg_hc, q_lt_t, q_lt_f, q_le_t, q_le_f, q_eq_t, q_eq_f, ne_eq, eq_self, Bool.false_eq_true, Bool.true_eq_false, not_true_eq_false, not_false_eq_true, true_and, and_true, false_and, and_false, true_or, or_true, false_or, or_false, if_true, if_false, Int.reduceAdd, Int.reduceMul, Int.reduceSub, Int.reduceNeg, ne, hK, hR, c1, R_268_0, R_268_9, R_268_13, R_268_21, R_268_27, R_268_40, R_268_47, R_268_56, R_268_60, R_268_65, R_268_74, R_268_77, R_268_90, R_268_99, R_268_103, R_268_112, R_268_116, R_268_123, R_268_126, R_268_136, R_268_146, R_268_149, R_268_152, C_268_18, C_268_24, C_268_37, C_268_44, C_268_53, C_268_57, C_268_120, C_268_143]
      · try dsimp only [lowT_e1, lowT_e2]
        rw [if_neg c1]
        exact S
end MLW
