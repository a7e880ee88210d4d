/-! SPAN, of both -/
section SPA
variable {d L : Nat} {xs : Nat → Int32} {s s' u v : Nat → Int → Int32} {O : Nat → Int64} {c : Bool × Nat × Nat} {m m' : Int → Int} {b b' n f0 : Int}
noncomputable def SpC (s t : Nat → Int → Int32) : Prop := ∀ k z, ¬ (7 ≤ k ∧ k ≤ 34) → k ≠ 54 → ¬ (241 ≤ k ∧ k ≤ 260) → k ≠ 265 → k ≠ 266 → ¬ (270 ≤ k ∧ k ≤ 284) → t k z = s k z
noncomputable def SpR (i cur lo hi f0 : Int) : Prop := (i = 1 ∧ cur = -1 ∧ lo = 100 ∧ hi = 0) ∨ (1 < i ∧ cur = if f0 = 0 then lo else hi)
theorem spanL (n0 : 0 ≤ n) (n1 : n ≤ 60) (I : Inv m b) (hb : b + 60 < 2147483647) (hL : LawP m (q_g s 49) (q_g s 50) (q_g s 51) (q_g s 52) (q_g s 53)) (em : q_g s' 286 = m) (hf : f0 = 0 ∨ f0 = 1) : ∀ (f : Nat) (i lo hi : Int) (t : Nat → Int → Int32) (x6 : Value), 7 - i = f → 1 ≤ i → 0 ≤ lo → lo ≤ 100 → 0 ≤ hi → hi ≤ 100 → RB m t 21 → SpC s t → ∃ x u, EV (d + 39) 173 38 [.ref 1, .int (q_I (n)), .int (q_I (f0)), .int (q_I (lo)), .int (q_I (hi)), .int (q_I (i)), x6] [] (q_h L xs (t) O c) = some (.inl (some (.int (q_I (x)))), q_h L xs (u) O c) ∧ RB m u 7 ∧ SpC s u ∧ ∀ (v : Nat → Int → Int32) (d : Nat) (O : Nat → Int64) (c : Bool × Nat × Nat) (cur : Int) (x5 x6 : Value), q_g v 286 = m → (∀ z, 0 ≤ z → z < 1049 → q_g v 288 z = m z) → SpR i cur lo hi f0 → ∃ w, EV (d + 40) 342 37 [.ref 285, .int (q_I (n)), .int (q_I (f0)), .int (q_I (cur)), .int (q_I (i)), x5, x6] [] (q_h L xs (v) O c) = some (.inl (some (.int (q_I (x)))), q_h L xs (w) O c) ∧ q_g w 286 = m ∧ PsF v w
  | 0, i, lo, hi, t, x6, e, i1, lo0, lo1, hi0, hi1, H, hC => by
    have h7 : isS 7 := Or.inl rfl
    have h21 : isS 21 := Or.inr (Or.inl rfl)
    have cp2 := cc_copyFrom (d := d + 36) (L := L) (xs := xs) (s := t) (O := O) (c := c) h7 h21 (by omega)
    refine ⟨if f0 = 0 then lo else hi, cpS t 7 21, ?_, RB_cpS I (fun _ _ _ => rfl) H (by omega), fun k z k1 k2 k3 k4 k5 k6 => by rw [cpS_n (by omega), hC k z k1 k2 k3 k4 k5 k6], fun v d O c cur x5 x6 ev e8 R => ⟨v, ?_, ev, fun _ _ _ _ _ => rfl⟩⟩
    · rw [R_173_38]
      rcases hf with hf | hf
      · subst hf
        simp (disch := first | omega | exact q_b_01 _) only [↓reduceIte, q_bk0, q_bk1, q_bk2, q_sg_b, q_b_0, q_b_n0, q_b_1, q_b_n1, q_b_T, q_b_F, q_sg_g, q_sg_sg, q_sg_xs, q_sg_id, q_gu_ne, q_gu_eq, q_g_fne, q_g_cpe, q_w_f, q_v_f, q_u_f, q_fn_f, q_cp_f, q_sg_pg, q_sg_hc, q_lt_t, q_lt_f, q_le_t, q_le_f, q_eq_t, q_eq_f, ne_eq, eq_self, Bool.false_eq_true, Bool.true_eq_false, not_true_eq_false, not_false_eq_true, true_and, and_true, false_and, and_false, true_or, or_true, false_or, or_false, if_true, if_false, Int.reduceAdd, Int.reduceMul, Int.reduceSub, Int.reduceNeg, cp2, R_173_103, C_173_111, R_173_114, R_173_123, R_173_124]
      · subst hf
        simp (disch := first | omega | exact q_b_01 _) only [↓reduceIte, q_bk0, q_bk1, q_bk2, q_sg_b, q_b_0, q_b_n0, q_b_1, q_b_n1, q_b_T, q_b_F, q_sg_g, q_sg_sg, q_sg_xs, q_sg_id, q_gu_ne, q_gu_eq, q_g_fne, q_g_cpe, q_w_f, q_v_f, q_u_f, q_fn_f, q_cp_f, q_sg_pg, q_sg_hc, q_lt_t, q_lt_f, q_le_t, q_le_f, q_eq_t, q_eq_f, ne_eq, eq_self, Bool.false_eq_true, Bool.true_eq_false, not_true_eq_false, not_false_eq_true, true_and, and_true, false_and, and_false, true_or, or_true, false_or, or_false, if_true, if_false, Int.reduceAdd, Int.reduceMul, Int.reduceSub, Int.reduceNeg, cp2, R_173_103, C_173_111, R_173_114, R_173_118, R_173_124]
    · rcases R with ⟨r1, -⟩ | ⟨r1, r2⟩
      · omega
      · rw [R_342_37, r2]
        simp (disch := first | omega | exact q_b_01 _) only [↓reduceIte, q_bk0, q_bk1, q_bk2, q_sg_b, q_b_0, q_b_n0, q_b_1, q_b_n1, q_b_T, q_b_F, q_sg_g, q_sg_sg, q_sg_xs, q_sg_id, q_gu_ne, q_gu_eq, q_g_fne, q_g_cpe, q_w_f, q_v_f, q_u_f, q_fn_f, q_cp_f, q_sg_pg, q_sg_hc, q_lt_t, q_lt_f, q_le_t, q_le_f, q_eq_t, q_eq_f, ne_eq, eq_self, Bool.false_eq_true, Bool.true_eq_false, not_true_eq_false, not_false_eq_true, true_and, and_true, false_and, and_false, true_or, or_true, false_or, or_false, if_true, if_false, Int.reduceAdd, Int.reduceMul, Int.reduceSub, Int.reduceNeg, R_342_111]
  | f + 1, i, lo, hi, t, x6, e, i1, lo0, lo1, hi0, hi1, H, hC => by
    have h7 : isS 7 := Or.inl rfl
    have h21 : isS 21 := Or.inr (Or.inl rfl)
    have cp2 := cc_copyFrom (d := d + 36) (L := L) (xs := xs) (s := t) (O := O) (c := c) h7 h21 (by omega)
    have H7 : RB m (cpS t 7 21) 7 := RB_cpS I (fun _ _ _ => rfl) H (by omega)
    have H8 : RB (up m 7 (q_sg i)) (q_u (cpS t 7 21) 7 9 i) 7 := RB_seed H7 (fun q q0 q1 => (inv_rows I q q0 q1).2) I.2.1.2.1
    have I8 : Inv (up m 7 (q_sg i)) b := Inv_seed I
    have cN : ∀ k z, ¬ (7 ≤ k ∧ k ≤ 20) → q_u (cpS t 7 21) 7 9 i k z = t k z := fun k z h => by rw [q_u_n (by omega), cpS_n (by omega)]
    have L8 : LawP (up m 7 (q_sg i)) (q_g (q_u (cpS t 7 21) 7 9 i) 49) (q_g (q_u (cpS t 7 21) 7 9 i) 50) (q_g (q_u (cpS t 7 21) 7 9 i) 51) (q_g (q_u (cpS t 7 21) 7 9 i) 52) (q_g (q_u (cpS t 7 21) 7 9 i) 53) := LawP_sm (LawP_ext hL (fun z hz => up_ne (by omega))) (fun k z h1 h2 => by rw [cN k z (by omega), hC k z (by omega) (by omega) (by omega) (by omega) (by omega) (by omega)])
    obtain ⟨u, ans, ky, hv, g1, g2, g3, g4, g5, g6⟩ := both_run (d := d + 22) (L := L) (xs := xs) (s := q_u (cpS t 7 21) 7 9 i) (s' := q_u s' 286 7 i) (O := O) (c := c) (n := n) n0 n1 I8 hb H8 L8 (by rw [q_g_u286, em])
    obtain ⟨u', w1, w2, w3⟩ := g4 (d + 23)
    have Hu : RB m u' 21 := rb_sm H (fun k k0 k1 => by
      funext z
      show (u' k z).toInt = _
      rw [w3 k (by omega), g2 k z (by omega) (by omega) (by omega) (by omega) (by omega), cN k z (by omega)]
      rfl)
    have hu : SpC s u' := fun k z k1 k2 k3 k4 k5 k6 => by rw [w3 k (by omega), g2 k z (by omega) k2 k3 k4 k5, cN k z (by omega), hC k z k1 k2 k3 k4 k5 k6]
    have gt := wk_g2 (L := L) (xs := xs) (s := u') (O := O) (c := c) (r264_W (v := 4) (by omega) (by omega))
    rw [w2] at gt
    have mi := jj_min (d := d + 38) (L := L) (xs := xs) (s := u') (O := O) (c := c) (x := lo) (y := ky)
    have ma := jj_max (d := d + 38) (L := L) (xs := xs) (s := u') (O := O) (c := c) (x := hi) (y := ky)
    rw [q_sg_id (x := lo) (by omega) (by omega), q_sg_id (x := ky) (by omega) (by omega)] at mi
    rw [q_sg_id (x := hi) (by omega) (by omega), q_sg_id (x := ky) (by omega) (by omega)] at ma
    have lor : 0 ≤ (if ky < lo then ky else lo) ∧ (if ky < lo then ky else lo) ≤ 100 := by
      split
      · omega
      · omega
    have hir : 0 ≤ (if hi < ky then ky else hi) ∧ (if hi < ky then ky else hi) ≤ 100 := by
      split
      · omega
      · omega
    have nx : ∀ cur, SpR i cur lo hi f0 → SpR (i + 1) (if cur = -1 then ky else if f0 = 0 then (if cur < ky then cur else ky) else (if ky < cur then cur else ky)) (if ky < lo then ky else lo) (if hi < ky then ky else hi) f0 := fun cur R => by
      right
      refine ⟨by omega, ?_⟩
      rcases R with ⟨r1, r2, r3, r4⟩ | ⟨r1, r2⟩
      · rw [if_pos r2]
        rcases hf with hf | hf
        · rw [if_pos hf]
          split
          · rfl
          · omega
        · rw [if_neg (by omega)]
          split
          · rfl
          · omega
      · rcases hf with hf | hf
        · rw [if_pos hf] at r2
          rw [if_neg (show ¬ cur = -1 by omega), if_pos hf, if_pos hf]
          repeat' split
          all_goals omega
        · rw [if_neg (show ¬ f0 = 0 by omega)] at r2
          rw [if_neg (show ¬ cur = -1 by omega), if_neg (show ¬ f0 = 0 by omega), if_neg (show ¬ f0 = 0 by omega)]
          repeat' split
          all_goals omega
    generalize hlo : (if ky < lo then ky else lo) = lo' at mi lor nx
    generalize hhi : (if hi < ky then ky else hi) = hi' at ma hir nx
    obtain ⟨x, y, c1, c2, c3, c4⟩ := spanL n0 n1 I hb hL em hf f (i + 1) lo' hi' u' (.int (q_I ky)) (by omega) (by omega) lor.1 lor.2 hir.1 hir.2 Hu hu
    refine ⟨x, y, ?_, c2, c3, fun v d O c cur x5 x6 ev e8 R => ?_⟩
    · rw [← c1, R_173_38]
      simp (disch := first | omega | exact q_b_01 _) only [↓reduceIte, q_bk0, q_bk1, q_bk2, q_sg_b, q_b_0, q_b_n0, q_b_1, q_b_n1, q_b_T, q_b_F, q_sg_g, q_sg_sg, q_sg_xs, q_sg_id, q_gu_ne, q_gu_eq, q_g_fne, q_g_cpe, q_w_f, q_v_f, q_u_f, q_fn_f, q_cp_f, q_sg_pg, q_sg_hc, q_lt_t, q_lt_f, q_le_t, q_le_f, q_eq_t, q_eq_f, ne_eq, eq_self, Bool.false_eq_true, Bool.true_eq_false, not_true_eq_false, not_false_eq_true, true_and, and_true, false_and, and_false, true_or, or_true, false_or, or_false, if_true, if_false, Int.reduceAdd, Int.reduceMul, Int.reduceSub, Int.reduceNeg, cp2, g1, w1, gt, mi, ma, R_173_45, C_173_53, R_173_56, R_173_65, C_173_67, R_173_70, C_173_73, R_173_76, R_173_79, C_173_84, R_173_87, C_173_92, R_173_95]
    · have curr : cur = -1 ∨ (0 ≤ cur ∧ cur ≤ 100) := by
        rcases R with ⟨r1, r2, -⟩ | ⟨r1, r2⟩
        · exact Or.inl r2
        · right
          rw [r2]
          split
          · omega
          · omega
      obtain ⟨w, k1, k2, k3, k4, k5, k6⟩ := g6 (q_u v 286 7 i) d O c (by rw [q_g_u286, ev])
      have r4 := mm_root4 (d := d + 37) (L := L) (xs := xs) (s := w) (O := O) (c := c) rfl
      have ks := mm_keys4 (d := d + 26) (L := L) (xs := xs) (s := w) (O := O) (c := c) rfl (inv_vw k4) k2
      have cb := mm_restore (d := d + 39) (L := L) (xs := xs) (s := w) (O := O) (c := c)
      have w88 : ∀ z, q_g w 288 z = q_g v 288 z := fun z => by
        show (w 288 z).toInt = _
        rw [k6 288 z (by omega) (by omega) (by omega), q_u_n (by omega)]
        rfl
      generalize hW : q_fn w 286 0 1049 (q_g w 288) = W at cb
      have eW : q_g W 286 = m := funext fun z => by
        rw [← hW, q_g_fn]
        by_cases ez : 0 ≤ z ∧ z < 1049
        · rw [if_pos ⟨rfl, ez⟩, q_sg_g, w88, e8 z ez.1 ez.2]
        · rw [if_neg (by omega), k5 z (by omega), up_ne (by omega)]
      have fW : PsF v W := fun k z h1 h2 h3 => by rw [← hW, q_fn_n (by omega), k6 k z h1 h2 h3, q_u_n (by omega)]
      have W88 : ∀ z, 0 ≤ z → z < 1049 → q_g W 288 z = m z := fun z z0 z1 => by
        rw [← hW, q_g_fne (by omega), w88, e8 z z0 z1]
      obtain ⟨y, y1, y2, y3⟩ := c4 W d O c _ (.int (q_I ans)) (.int (q_I ky)) eW W88 (nx cur R)
      refine ⟨y, ?_, y2, fun k z h1 h2 h3 => by rw [y3 k z h1 h2 h3, fW k z h1 h2 h3]⟩
      rw [← y1, R_342_37]
      have le := mm_lesser (d := d + 39) (L := L) (xs := xs) (s := W) (O := O) (c := c) (a := cur) (b := ky)
      have gr := mm_greater (d := d + 39) (L := L) (xs := xs) (s := W) (O := O) (c := c) (a := cur) (b := ky)
      rw [q_sg_id (x := cur) (by omega) (by omega), q_sg_id (x := ky) (by omega) (by omega)] at le gr
      by_cases ec : cur = -1
      · subst ec
        simp (disch := first | omega | exact q_b_01 _) only [↓reduceIte, q_bk0, q_bk1, q_bk2, q_sg_b, q_b_0, q_b_n0, q_b_1, q_b_n1, q_b_T, q_b_F, q_sg_g, q_sg_sg, q_sg_xs, q_sg_id, q_gu_ne, q_gu_eq, q_g_fne, q_g_cpe, q_w_f, q_v_f, q_u_f, q_fn_f, q_cp_f, q_sg_pg, q_sg_hc, q_lt_t, q_lt_f, q_le_t, q_le_f, q_eq_t, q_eq_f, ne_eq, eq_self, Bool.false_eq_true, Bool.true_eq_false, not_true_eq_false, not_false_eq_true, true_and, and_true, false_and, and_false, true_or, or_true, false_or, or_false, if_true, if_false, Int.reduceAdd, Int.reduceMul, Int.reduceSub, Int.reduceNeg, k1, r4, ks, cb, R_342_44, R_342_53, C_342_55, R_342_58, C_342_63, C_342_66, R_342_69, C_342_72, R_342_75, R_342_80, R_342_104]
      · rw [if_neg ec]
        rcases hf with hf | hf
        · subst hf
          simp (disch := first | omega | exact q_b_01 _) only [↓reduceIte, q_bk0, q_bk1, q_bk2, q_sg_b, q_b_0, q_b_n0, q_b_1, q_b_n1, q_b_T, q_b_F, q_sg_g, q_sg_sg, q_sg_xs, q_sg_id, q_gu_ne, q_gu_eq, q_g_fne, q_g_cpe, q_w_f, q_v_f, q_u_f, q_fn_f, q_cp_f, q_sg_pg, q_sg_hc, q_lt_t, q_lt_f, q_le_t, q_le_f, q_eq_t, q_eq_f, ne_eq, eq_self, Bool.false_eq_true, Bool.true_eq_false, not_true_eq_false, not_false_eq_true, true_and, and_true, false_and, and_false, true_or, or_true, false_or, or_false, if_true, if_false, Int.reduceAdd, Int.reduceMul, Int.reduceSub, Int.reduceNeg, k1, r4, ks, cb, le, R_342_44, R_342_53, C_342_55, R_342_58, C_342_63, C_342_66, R_342_69, C_342_72, R_342_75, R_342_85, R_342_98, C_342_101, R_342_104]
        · subst hf
          simp (disch := first | omega | exact q_b_01 _) only [↓reduceIte, q_bk0, q_bk1, q_bk2, q_sg_b, q_b_0, q_b_n0, q_b_1, q_b_n1, q_b_T, q_b_F, q_sg_g, q_sg_sg, q_sg_xs, q_sg_id, q_gu_ne, q_gu_eq, q_g_fne, q_g_cpe, q_w_f, q_v_f, q_u_f, q_fn_f, q_cp_f, q_sg_pg, q_sg_hc, q_lt_t, q_lt_f, q_le_t, q_le_f, q_eq_t, q_eq_f, ne_eq, eq_self, Bool.false_eq_true, Bool.true_eq_false, not_true_eq_false, not_false_eq_true, true_and, and_true, false_and, and_false, true_or, or_true, false_or, or_false, if_true, if_false, Int.reduceAdd, Int.reduceMul, Int.reduceSub, Int.reduceNeg, k1, r4, ks, cb, gr, R_342_44, R_342_53, C_342_55, R_342_58, C_342_63, C_342_66, R_342_69, C_342_72, R_342_75, R_342_85, R_342_89, C_342_92, R_342_95, R_342_104]
theorem op_span (B : Big b s) (hb : b + 60 < 2147483647) {n f : Int} (v1' : -2147483648 ≤ n) (v2' : n < 2147483648) (hf : f = 0 ∨ f = 1) : Op (Big b) (fun h => EV (d + 40) 30 0 [.ref 1, .int (q_I (n)), .int (q_I (f)), .ref 312, .null] [] h) (fun h => EV (d + 40) 342 0 [.ref 285, .int (q_I (n)), .int (q_I (f)), .null, .null, .null, .null] [] h) L xs s O c := by
  by_cases hn : 0 ≤ n ∧ n ≤ 60
  · have I := B.1.2.1
    have h7 : isS 7 := Or.inl rfl
    have h21 : isS 21 := Or.inr (Or.inl rfl)
    have cp1 := cc_copyFrom (d := d + 36) (L := L) (xs := xs) (s := s) (O := O) (c := c) h21 h7 (by omega)
    have Hs : RB (q_g s 286) (cpS s 21 7) 21 := RB_cpS I (fun _ _ _ => rfl) B.1.1 (by omega)
    obtain ⟨x, u, c1, c2, c3, c4⟩ := spanL (d := d) (L := L) (xs := xs) (O := O) (c := c) (s := s) (s' := s) (n := n) (f0 := f) hn.1 hn.2 I hb B.1.2.2 rfl hf 6 1 100 0 (cpS s 21 7) .null (by omega) (by omega) (by omega) (by omega) (by omega) (by omega) Hs (fun k z k1 k2 k3 k4 k5 k6 => cpS_n (by omega))
    have eu : q_g (q_u u 285 0 0) 286 = q_g s 286 := by
      rw [q_u_f (by omega)]
      exact funext fun z => by
        show (u 286 z).toInt = _
        rw [c3 286 z (by omega) (by omega) (by omega) (by omega) (by omega) (by omega)]
        rfl
    have pa := mm_aside (d := d + 39) (L := L) (xs := xs) (s := q_u u 285 0 0) (O := vp_updL O 0 (q_I x).toInt64) (c := c)
    rw [eu] at pa
    generalize hA : q_fn (q_u u 285 0 0) 288 0 1049 (q_g s 286) = A at pa
    have eA : q_g A 286 = q_g s 286 := by
      rw [← eu, ← hA]
      exact funext fun z => q_g_fne (by omega)
    have fA : ∀ k z, k ≠ 288 → ¬ (k = 285 ∧ z = 0) → A k z = u k z := fun k z h1 h2 => by rw [← hA, q_fn_n (by omega), q_u_n h2]
    have g0 : q_g (q_u u 285 0 0) 285 0 = 0 := by rw [q_gu_eq rfl]; rfl
    obtain ⟨w, w1, w2, w3⟩ := c4 A d (vp_updL O 0 (q_I x).toInt64) c (-1) .null .null eA (fun z z0 z1 => by
      rw [← hA, q_g_fn, if_pos ⟨rfl, z0, z1⟩]
      exact q_sg_g s 286 z) (Or.inl ⟨rfl, rfl, rfl, rfl⟩)
    refine ⟨0, x, u, w, vp_updL O 0 (q_I x).toInt64, c, ?_, ?_, by omega, by omega, ?_, fun _ => rfl, Or.inl rfl, ?_⟩
    · have sp : EV (d + 39) 173 0 [.ref 1, .int (q_I (n)), .int (q_I (f)), .null, .null, .null, .null] [] (q_h L xs s O c) = some (.inl (some (.int (q_I (x)))), q_h L xs (u) O c) := by
        rw [← c1]
        simp (disch := first | omega | exact q_b_01 _) only [↓reduceIte, q_bk0, q_bk1, q_bk2, q_sg_b, q_b_0, q_b_n0, q_b_1, q_b_n1, q_b_T, q_b_F, q_sg_g, q_sg_sg, q_sg_xs, q_sg_id, q_gu_ne, q_gu_eq, q_g_fne, q_g_cpe, q_w_f, q_v_f, q_u_f, q_fn_f, q_cp_f, q_sg_pg, q_sg_hc, q_lt_t, q_lt_f, q_le_t, q_le_f, q_eq_t, q_eq_f, ne_eq, eq_self, Bool.false_eq_true, Bool.true_eq_false, not_true_eq_false, not_false_eq_true, true_and, and_true, false_and, and_false, true_or, or_true, false_or, or_false, if_true, if_false, Int.reduceAdd, Int.reduceMul, Int.reduceSub, Int.reduceNeg, cp1, R_173_0, R_173_4, R_173_18, R_173_29, C_173_26]
      simp (disch := first | omega | exact q_b_01 _) only [↓reduceIte, q_bk0, q_bk1, q_bk2, q_sg_b, q_b_0, q_b_n0, q_b_1, q_b_n1, q_b_T, q_b_F, q_sg_g, q_sg_sg, q_sg_xs, q_sg_id, q_gu_ne, q_gu_eq, q_g_fne, q_g_cpe, q_w_f, q_v_f, q_u_f, q_fn_f, q_cp_f, q_sg_pg, q_sg_hc, q_lt_t, q_lt_f, q_le_t, q_le_f, q_eq_t, q_eq_f, ne_eq, eq_self, Bool.false_eq_true, Bool.true_eq_false, not_true_eq_false, not_false_eq_true, true_and, and_true, false_and, and_false, true_or, or_true, false_or, or_false, if_true, if_false, Int.reduceAdd, Int.reduceMul, Int.reduceSub, Int.reduceNeg, sp, R_30_0, R_30_8, R_30_10, R_30_15, C_30_5, q_lst, K_30_0]
    · refine Eq.trans ?_ w1
      simp (disch := first | omega | exact q_b_01 _) only [↓reduceIte, q_bk0, q_bk1, q_bk2, q_sg_b, q_b_0, q_b_n0, q_b_1, q_b_n1, q_b_T, q_b_F, q_sg_g, q_sg_sg, q_sg_xs, q_sg_id, q_gu_ne, q_gu_eq, q_g_fne, q_g_cpe, q_w_f, q_v_f, q_u_f, q_fn_f, q_cp_f, q_sg_pg, q_sg_hc, q_lt_t, q_lt_f, q_le_t, q_le_f, q_eq_t, q_eq_f, ne_eq, eq_self, Bool.false_eq_true, Bool.true_eq_false, not_true_eq_false, not_false_eq_true, true_and, and_true, false_and, and_false, true_or, or_true, false_or, or_false, if_true, if_false, Int.reduceAdd, Int.reduceMul, Int.reduceSub, Int.reduceNeg, hn, g0, pa, R_342_0, C_342_5, R_342_8, R_342_11, R_342_15, R_342_16, R_342_19, R_342_28, C_342_29, R_342_32, mm_isIn]
    · show (w 285 0).toInt = 0
      rw [w3 285 0 (by omega) (by omega) (by omega), ← hA, q_fn_n (by omega)]
      exact g0
    · have ew := w2
      refine Big_now B (Int.le_refl b) (fun k z hz h1 h2 => ?_) (fun z hz => by rw [w2]) ?_ (by rw [w2]; exact I)
      · unfold relz relc at hz
        rw [w3 k z h2 (by omega) (by omega), fA k z (by omega) (by omega), c3 k z (by omega) (by omega) (by omega) (by omega) (by omega) (by omega)]
      · rw [w2]
        exact rb_k c2 (fun k z h1 h2 => by rw [w3 k z (by omega) (by omega) (by omega), fA k z (by omega) (by omega)])
  · refine ⟨1, 0, s, q_u s 285 0 1, O, q_th c, ?_, ?_, by omega, by omega, by rw [q_gu_eq rfl]; rfl, by omega, Or.inr rfl, Big_sm B (Sm_u Sm_rfl (by unfold relz relc; omega))⟩
    · by_cases h2 : n < 0
      · simp (disch := first | omega | exact q_b_01 _) only [↓reduceIte, q_bk0, q_bk1, q_bk2, q_sg_b, q_b_0, q_b_n0, q_b_1, q_b_n1, q_b_T, q_b_F, q_sg_g, q_sg_sg, q_sg_xs, q_sg_id, q_gu_ne, q_gu_eq, q_g_fne, q_g_cpe, q_w_f, q_v_f, q_u_f, q_fn_f, q_cp_f, q_sg_pg, q_sg_hc, q_lt_t, q_lt_f, q_le_t, q_le_f, q_eq_t, q_eq_f, ne_eq, eq_self, Bool.false_eq_true, Bool.true_eq_false, not_true_eq_false, not_false_eq_true, true_and, and_true, false_and, and_false, true_or, or_true, false_or, or_false, if_true, if_false, Int.reduceAdd, Int.reduceMul, Int.reduceSub, Int.reduceNeg, R_30_0, R_30_8, R_30_10, R_30_15, C_30_5, R_173_0, R_173_4, R_173_10, R_173_18, R_173_29, R_173_45, R_173_56, R_173_65, R_173_70, R_173_76, R_173_79, R_173_87, R_173_95, R_173_103, R_173_114, R_173_118, R_173_123, R_173_124, C_173_26, C_173_53, C_173_67, C_173_73, C_173_84, C_173_92, C_173_111, K_30_0]
      · simp (disch := first | omega | exact q_b_01 _) only [↓reduceIte, q_bk0, q_bk1, q_bk2, q_sg_b, q_b_0, q_b_n0, q_b_1, q_b_n1, q_b_T, q_b_F, q_sg_g, q_sg_sg, q_sg_xs, q_sg_id, q_gu_ne, q_gu_eq, q_g_fne, q_g_cpe, q_w_f, q_v_f, q_u_f, q_fn_f, q_cp_f, q_sg_pg, q_sg_hc, q_lt_t, q_lt_f, q_le_t, q_le_f, q_eq_t, q_eq_f, ne_eq, eq_self, Bool.false_eq_true, Bool.true_eq_false, not_true_eq_false, not_false_eq_true, true_and, and_true, false_and, and_false, true_or, or_true, false_or, or_false, if_true, if_false, Int.reduceAdd, Int.reduceMul, Int.reduceSub, Int.reduceNeg, R_30_0, R_30_8, R_30_10, R_30_15, C_30_5, R_173_0, R_173_4, R_173_10, R_173_18, R_173_29, R_173_45, R_173_56, R_173_65, R_173_70, R_173_76, R_173_79, R_173_87, R_173_95, R_173_103, R_173_114, R_173_118, R_173_123, R_173_124, C_173_26, C_173_53, C_173_67, C_173_73, C_173_84, C_173_92, C_173_111, K_30_0]
    · have g1 : ¬ q_g (q_u s 285 0 1) 285 0 = 0 := by
        rw [q_gu_eq rfl]
        decide
      simp (disch := first | omega | exact q_b_01 _) only [↓reduceIte, q_bk0, q_bk1, q_bk2, q_sg_b, q_b_0, q_b_n0, q_b_1, q_b_n1, q_b_T, q_b_F, q_sg_g, q_sg_sg, q_sg_xs, q_sg_id, q_gu_ne, q_gu_eq, q_g_fne, q_g_cpe, q_w_f, q_v_f, q_u_f, q_fn_f, q_cp_f, q_sg_pg, q_sg_hc, q_lt_t, q_lt_f, q_le_t, q_le_f, q_eq_t, q_eq_f, ne_eq, eq_self, Bool.false_eq_true, Bool.true_eq_false, not_true_eq_false, not_false_eq_true, true_and, and_true, false_and, and_false, true_or, or_true, false_or, or_false, if_true, if_false, Int.reduceAdd, Int.reduceMul, Int.reduceSub, Int.reduceNeg, hn, g1, R_342_0, R_342_8, R_342_11, R_342_15, R_342_16, R_342_19, R_342_26, R_342_28, R_342_32, R_342_44, R_342_53, R_342_58, R_342_69, R_342_75, R_342_80, R_342_85, R_342_89, R_342_95, R_342_98, R_342_104, R_342_111, C_342_5, C_342_29, C_342_55, C_342_63, C_342_66, C_342_72, C_342_92, C_342_101, mm_isIn]
end SPA
