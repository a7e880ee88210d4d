/-! comes: how likely the changes come through -/
section CMS
variable {d L : Nat} {xs : Nat → Int32} {s : Nat → Int → Int32} {O : Nat → Int64} {c : Bool × Nat × Nat} {b : Int}
noncomputable def odz (r : Int → Int) : Nat → Int
  | 0 => 10000
  | n + 1 => q_dv (odz r n * (100 - r n)) 100
theorem odz_1 {r : Int → Int} {k : Int} (k0 : 0 ≤ k) : q_dv (odz r k.toNat * (100 - r k)) 100 = odz r (k + 1).toNat := by
  rw [show (k + 1).toNat = k.toNat + 1 by omega, odz, show ((k.toNat : Nat) : Int) = k by omega]
theorem own_fcs {m pl pl' : Int → Int} {p : Int} (h : p < 2 ∨ OwnP pl p s) (h' : p < 2 ∨ OwnP pl' p s) : fcs m pl p = fcs m pl' p := by
  have key : p < 2 ∨ (pl (16 * p) = pl' (16 * p) ∧ pl (16 * p + 1) = pl' (16 * p + 1)) := by
    rcases h with h | h
    · exact Or.inl h
    · rcases h' with h' | h'
      · exact Or.inl h'
      · right
        rcases h with ⟨a1, a2, a3, a4, a5⟩ | ⟨a1, a2, a3, a4, a5, a6⟩
        · rcases h' with ⟨b1, b2, b3, b4, b5⟩ | ⟨b1, b2, b3, b4, b5, b6⟩
          · exact ⟨by rw [← a3, ← b3], by rw [← a5, ← b5]⟩
          · omega
        · rcases h' with ⟨b1, b2, b3, b4, b5⟩ | ⟨b1, b2, b3, b4, b5, b6⟩
          · omega
          · exact ⟨by rw [a3, b3], by rw [a6, b6]⟩
  funext k
  unfold fcs
  by_cases e : p < 2
  · simp only [if_pos e]
  · rcases key with h | ⟨h1, h2⟩
    · exact absurd h e
    · rw [h1, h2]
theorem op_comes (B : Big b s) (hb : b < 2147483646) : Op0 (Big b) (fun h => EV (d + 40) 162 0 [.ref 1, .null, .null, .null] [] h) (fun h => EV (d + 40) 323 0 [.ref 285, .null, .null] [] h) L xs s O c := by
  have em : ∀ {u : Nat → Int → Int32}, PlnF s u → q_g (q_u u 285 0 0) 286 = q_g s 286 := fun {u} h => by
    rw [q_u_f (by omega)]
    exact funext fun z => by
      show (u 286 z).toInt = _
      rw [h 286 z (by omega)]
      rfl
  have fin : ∀ {u v : Nat → Int → Int32}, PlnF s u → MwF (q_u u 285 0 0) v → Big b v := fun {u v} h1 h2 => Big_sm B (fun k z hz => by
    unfold relz relc at hz
    rw [h2 k z (by omega) (by omega), q_u_n (by omega), h1 k z (by omega)])
  rcases planW (d := d + 23) (L := L) (xs := xs) (O := O) (c := c) B hb rfl with ⟨u, u1, u2, u3, u4⟩ | ⟨u, u1, u3, u4⟩ | ⟨T, Lf, sc, u, u0, u1, u2, u3, u4⟩
  · obtain ⟨v, v1, v2, v3, v4⟩ := u4 (q_u u 285 0 0) (d + 20) O c (em u3)
    refine ⟨10000, u, v, ?_, ?_, fin u3 v4⟩
    · simp (disch := first | omega | exact q_b_01 _) only [↓reduceIte, q_bk0, q_bk1, q_bk2, q_sg_b, q_b_0, q_b_n0, q_b_1, q_b_n1, q_b_T, q_b_F, q_sg_g, q_sg_sg, q_sg_xs, q_sg_id, q_gu_ne, q_gu_eq, q_g_fne, q_g_cpe, q_w_f, q_v_f, q_u_f, q_fn_f, q_cp_f, q_sg_pg, q_sg_hc, q_lt_t, q_lt_f, q_le_t, q_le_f, q_eq_t, q_eq_f, ne_eq, eq_self, Bool.false_eq_true, Bool.true_eq_false, not_true_eq_false, not_false_eq_true, true_and, and_true, false_and, and_false, true_or, or_true, false_or, or_false, if_true, if_false, Int.reduceAdd, Int.reduceMul, Int.reduceSub, Int.reduceNeg, u1, R_162_0, R_162_4, R_162_10, R_162_12, R_162_23, R_162_42, R_162_47, R_162_54, C_162_1, C_162_39]
      rw [R_162_18]
      simp (disch := first | omega | exact q_b_01 _) only [↓reduceIte, q_bk0, q_bk1, q_bk2, q_sg_b, q_b_0, q_b_n0, q_b_1, q_b_n1, q_b_T, q_b_F, q_sg_g, q_sg_sg, q_sg_xs, q_sg_id, q_gu_ne, q_gu_eq, q_g_fne, q_g_cpe, q_w_f, q_v_f, q_u_f, q_fn_f, q_cp_f, q_sg_pg, q_sg_hc, q_lt_t, q_lt_f, q_le_t, q_le_f, q_eq_t, q_eq_f, ne_eq, eq_self, Bool.false_eq_true, Bool.true_eq_false, not_true_eq_false, not_false_eq_true, true_and, and_true, false_and, and_false, true_or, or_true, false_or, or_false, if_true, if_false, Int.reduceAdd, Int.reduceMul, Int.reduceSub, Int.reduceNeg, R_162_54]
    · simp (disch := first | omega | exact q_b_01 _) only [↓reduceIte, q_bk0, q_bk1, q_bk2, q_sg_b, q_b_0, q_b_n0, q_b_1, q_b_n1, q_b_T, q_b_F, q_sg_g, q_sg_sg, q_sg_xs, q_sg_id, q_gu_ne, q_gu_eq, q_g_fne, q_g_cpe, q_w_f, q_v_f, q_u_f, q_fn_f, q_cp_f, q_sg_pg, q_sg_hc, q_lt_t, q_lt_f, q_le_t, q_le_f, q_eq_t, q_eq_f, ne_eq, eq_self, Bool.false_eq_true, Bool.true_eq_false, not_true_eq_false, not_false_eq_true, true_and, and_true, false_and, and_false, true_or, or_true, false_or, or_false, if_true, if_false, Int.reduceAdd, Int.reduceMul, Int.reduceSub, Int.reduceNeg, v1, v2, R_323_0, R_323_5, R_323_9, R_323_16, R_323_20, R_323_23, R_323_34, R_323_41, R_323_51, R_323_63, R_323_70, C_323_6, C_323_48]
      rw [R_323_26]
      simp (disch := first | omega | exact q_b_01 _) only [↓reduceIte, q_bk0, q_bk1, q_bk2, q_sg_b, q_b_0, q_b_n0, q_b_1, q_b_n1, q_b_T, q_b_F, q_sg_g, q_sg_sg, q_sg_xs, q_sg_id, q_gu_ne, q_gu_eq, q_g_fne, q_g_cpe, q_w_f, q_v_f, q_u_f, q_fn_f, q_cp_f, q_sg_pg, q_sg_hc, q_lt_t, q_lt_f, q_le_t, q_le_f, q_eq_t, q_eq_f, ne_eq, eq_self, Bool.false_eq_true, Bool.true_eq_false, not_true_eq_false, not_false_eq_true, true_and, and_true, false_and, and_false, true_or, or_true, false_or, or_false, if_true, if_false, Int.reduceAdd, Int.reduceMul, Int.reduceSub, Int.reduceNeg, v3, R_323_70]
  · obtain ⟨v, v1, v2, v3, v4⟩ := u4 (q_u u 285 0 0) (d + 20) O c (em u3)
    refine ⟨0, u, v, ?_, ?_, fin u3 v4⟩
    · simp (disch := first | omega | exact q_b_01 _) only [↓reduceIte, q_bk0, q_bk1, q_bk2, q_sg_b, q_b_0, q_b_n0, q_b_1, q_b_n1, q_b_T, q_b_F, q_sg_g, q_sg_sg, q_sg_xs, q_sg_id, q_gu_ne, q_gu_eq, q_g_fne, q_g_cpe, q_w_f, q_v_f, q_u_f, q_fn_f, q_cp_f, q_sg_pg, q_sg_hc, q_lt_t, q_lt_f, q_le_t, q_le_f, q_eq_t, q_eq_f, ne_eq, eq_self, Bool.false_eq_true, Bool.true_eq_false, not_true_eq_false, not_false_eq_true, true_and, and_true, false_and, and_false, true_or, or_true, false_or, or_false, if_true, if_false, Int.reduceAdd, Int.reduceMul, Int.reduceSub, Int.reduceNeg, u1, R_162_0, R_162_4, R_162_10, R_162_12, R_162_23, R_162_42, R_162_47, R_162_54, C_162_1, C_162_39]
    · simp (disch := first | omega | exact q_b_01 _) only [↓reduceIte, q_bk0, q_bk1, q_bk2, q_sg_b, q_b_0, q_b_n0, q_b_1, q_b_n1, q_b_T, q_b_F, q_sg_g, q_sg_sg, q_sg_xs, q_sg_id, q_gu_ne, q_gu_eq, q_g_fne, q_g_cpe, q_w_f, q_v_f, q_u_f, q_fn_f, q_cp_f, q_sg_pg, q_sg_hc, q_lt_t, q_lt_f, q_le_t, q_le_f, q_eq_t, q_eq_f, ne_eq, eq_self, Bool.false_eq_true, Bool.true_eq_false, not_true_eq_false, not_false_eq_true, true_and, and_true, false_and, and_false, true_or, or_true, false_or, or_false, if_true, if_false, Int.reduceAdd, Int.reduceMul, Int.reduceSub, Int.reduceNeg, v1, v2, R_323_0, R_323_5, R_323_9, R_323_16, R_323_20, R_323_23, R_323_34, R_323_41, R_323_51, R_323_63, R_323_70, C_323_6, C_323_48]
      rw [R_323_26]
      simp (disch := first | omega | exact q_b_01 _) only [↓reduceIte, q_bk0, q_bk1, q_bk2, q_sg_b, q_b_0, q_b_n0, q_b_1, q_b_n1, q_b_T, q_b_F, q_sg_g, q_sg_sg, q_sg_xs, q_sg_id, q_gu_ne, q_gu_eq, q_g_fne, q_g_cpe, q_w_f, q_v_f, q_u_f, q_fn_f, q_cp_f, q_sg_pg, q_sg_hc, q_lt_t, q_lt_f, q_le_t, q_le_f, q_eq_t, q_eq_f, ne_eq, eq_self, Bool.false_eq_true, Bool.true_eq_false, not_true_eq_false, not_false_eq_true, true_and, and_true, false_and, and_false, true_or, or_true, false_or, or_false, if_true, if_false, Int.reduceAdd, Int.reduceMul, Int.reduceSub, Int.reduceNeg, v3, R_323_70]
  · obtain ⟨Lv, D, PT, LP, OL, DP, Sc, Kc, kn, -⟩ := id u0
    have s0 := Sc.1
    have s8 := Sc.2.1
    have Tk := inv_tk B.1.2.1 (by omega)
    have I := B.1.2.1
    have K0 : 0 ≤ cNo T + sc := by omega
    have cp := TK_ct Tk K0 Kc
    have Bu := Big_sm B (PlnF_Sm u3)
    have eu : q_g u 286 = q_g s 286 := funext fun z => by
      show (u 286 z).toInt = _
      rw [u3 286 z (by omega)]
      rfl
    have Hu := Bu.1.1
    have Lu := Bu.1.2.2
    rw [eu] at Hu Lu
    -- any plan of the reference
    obtain ⟨v0, -, -, w3, -⟩ := u4 (q_u u 285 0 0) (d + 20) O c (em u3)
    have pI := w3.2.2.2
    generalize q_g v0 305 = pl at pI
    clear w3
    generalize hm : q_g s 286 = m at *
    let r := fun k => rsk m pl (wq m (cNo T + sc) k)
    have h10 := u2.2.2.2.1.1
    -- the class
    obtain ⟨t, t1, t2⟩ := q_for (fun i t => EV (d + 40) 162 18 [.ref 1, .int (q_I (cNo T + sc + 1)), .int (q_I (odz r i.toNat)), .int (q_I (i))] [] (q_h L xs (t) O c)) (fun i t => ∀ k z, k ≠ 260 → k ≠ 54 → t k z = u k z) (lo := 0) (hi := cNo T + sc + 1) (by omega) (fun i t i0 i1 P => by
      have gt : ∀ k z, k ≠ 260 → k ≠ 54 → q_g t k z = q_g u k z := fun k z a1 a2 => by
        show (t k z).toInt = _
        rw [P k z a1 a2]
        rfl
      have PCt := PlanC_sm u2 (u := t) (fun k z a1 a2 => P k z (by omega) (by omega))
      obtain ⟨oa1, oa2, oa3, oa4⟩ := own_all Tk PCt PT pI s0 s8 kn Kc i0 (show i ≤ cNo T + sc by omega)
      have qr := wq_rg Tk K0 Kc i0 (show i ≤ cNo T + sc by omega)
      have hR : Rg (fcs m pl (wq m (cNo T + sc) i)) := fcs_Rg I (by omega) qr.1 qr.2 oa2
      obtain ⟨t', e1, e2⟩ := cc_risksOf (d := d + 35) (L := L) (xs := xs) (s := t) (O := O) (c := c) (k := i) (rb_k Hu (fun k z a1 a2 => P k z (by omega) (by omega))) I (LawP_sm Lu (fun k z a1 a2 => P k z (by omega) (by omega))) i0 (by rw [gt 241 10 (by omega) (by omega)]; omega) (by omega) oa4 qr.1 qr.2 oa1 PCt.2.2.2.2.1 hR
      refine ⟨t', ?_, fun k z a1 a2 => by rw [e2 k z a1 a2, P k z a1 a2]⟩
      show EV (d + 40) 162 18 [.ref 1, .int (q_I (cNo T + sc + 1)), .int (q_I (odz r i.toNat)), .int (q_I (i))] [] (q_h L xs (t) O c) = EV (d + 40) 162 18 [.ref 1, .int (q_I (cNo T + sc + 1)), .int (q_I (odz r (i + 1).toNat)), .int (q_I (i + 1))] [] (q_h L xs (t') O c)
      rw [← odz_1 i0, R_162_18]
      simp (disch := first | omega | exact q_b_01 _) only [↓reduceIte, q_bk0, q_bk1, q_bk2, q_sg_b, q_b_0, q_b_n0, q_b_1, q_b_n1, q_b_T, q_b_F, q_sg_g, q_sg_sg, q_sg_xs, q_sg_id, q_gu_ne, q_gu_eq, q_g_fne, q_g_cpe, q_w_f, q_v_f, q_u_f, q_fn_f, q_cp_f, q_sg_pg, q_sg_hc, q_lt_t, q_lt_f, q_le_t, q_le_f, q_eq_t, q_eq_f, ne_eq, eq_self, Bool.false_eq_true, Bool.true_eq_false, not_true_eq_false, not_false_eq_true, true_and, and_true, false_and, and_false, true_or, or_true, false_or, or_false, if_true, if_false, Int.reduceAdd, Int.reduceMul, Int.reduceSub, Int.reduceNeg, e1, R_162_23, C_162_39, R_162_42, R_162_47]
      rfl) (t := u) (fun _ _ _ _ => rfl)
    obtain ⟨v, v1, v2, v3, v4⟩ := u4 (q_u t 285 0 0) (d + 20) O c (by
      rw [q_u_f (by omega), ← eu]
      exact funext fun z => by
        show (t 286 z).toInt = _
        rw [t2 286 z (by omega) (by omega)]
        rfl)
    have pI' := v3.2.2.2
    have er : ∀ k, 0 ≤ k → k ≤ cNo T + sc → fcs m (q_g v 305) (wq m (cNo T + sc) k) = fcs m pl (wq m (cNo T + sc) k) := fun k k0 k1 => own_fcs (own_all Tk u2 PT pI' s0 s8 kn Kc k0 k1).1 (own_all Tk u2 PT pI s0 s8 kn Kc k0 k1).1
    obtain ⟨w, w1, w2⟩ := q_for (fun i w => EV (d + 40) 323 26 [.ref 285, .int (q_I (odz r i.toNat)), .int (q_I (i))] [] (q_h L xs (w) O c)) (fun i w => ∀ k z, ¬ (k = 285 ∧ (z = 9 ∨ z = 10 ∨ z = 11 ∨ z = 13 ∨ z = 15 ∨ z = 16)) → k ≠ 291 → w k z = v k z) (lo := 0) (hi := cNo T + sc + 1) (by omega) (fun i w i0 i1 P => by
      have gt : ∀ k z, ¬ (k = 285 ∧ (z = 9 ∨ z = 10 ∨ z = 11 ∨ z = 13 ∨ z = 15 ∨ z = 16)) → k ≠ 291 → q_g w k z = q_g v k z := fun k z a1 a2 => by
        show (w k z).toInt = _
        rw [P k z a1 a2]
        rfl
      have g39 : q_g w 285 39 = cNo T + sc + 1 := by rw [gt 285 39 (by omega) (by omega)]; exact v3.1
      have g36 : q_g w 285 36 = 0 := by rw [gt 285 36 (by omega) (by omega)]; exact v2
      have g06 : q_g w 306 i = wq m (cNo T + sc) i := by rw [gt 306 i (by omega) (by omega)]; exact (plan_wq Tk K0 Kc u2 v3 i0 (by omega)).2
      have ew : q_g w 286 = m := by
        rw [← hm]
        exact funext fun z => by
          rw [gt 286 z (by omega) (by omega)]
          show (v 286 z).toInt = _
          rw [v4 286 z (by omega) (by omega), q_u_n (by omega), t2 286 z (by omega) (by omega), u3 286 z (by omega)]
          rfl
      obtain ⟨oa1, oa2, oa3, oa4⟩ := own_all Tk u2 PT pI' s0 s8 kn Kc i0 (show i ≤ cNo T + sc by omega)
      have qr := wq_rg Tk K0 Kc i0 (show i ≤ cNo T + sc by omega)
      have hR : Rg (fcs m (q_g v 305) (wq m (cNo T + sc) i)) := fcs_Rg I (by omega) qr.1 qr.2 oa2
      obtain ⟨w', e1, e2, e3, e4⟩ := mm_asks (d := d + 3) (L := L) (xs := xs) (s := w) (O := O) (c := c) (pl := q_g v 305) (p := wq m (cNo T + sc) i) ew I Lu qr.1 qr.2 (Or.inr ⟨gt 305 _ (by omega) (by omega), gt 305 _ (by omega) (by omega)⟩) hR
      rw [er i i0 (by omega)] at e2
      have e2' : q_g w' 285 15 = r i := e2
      refine ⟨w', ?_, fun k z a1 a2 => by rw [e4 k z a1 a2, P k z a1 a2]⟩
      show EV (d + 40) 323 26 [.ref 285, .int (q_I (odz r i.toNat)), .int (q_I (i))] [] (q_h L xs (w) O c) = EV (d + 40) 323 26 [.ref 285, .int (q_I (odz r (i + 1).toNat)), .int (q_I (i + 1))] [] (q_h L xs (w') O c)
      rw [← odz_1 i0, R_323_26]
      simp (disch := first | omega | exact q_b_01 _) only [↓reduceIte, q_bk0, q_bk1, q_bk2, q_sg_b, q_b_0, q_b_n0, q_b_1, q_b_n1, q_b_T, q_b_F, q_sg_g, q_sg_sg, q_sg_xs, q_sg_id, q_gu_ne, q_gu_eq, q_g_fne, q_g_cpe, q_w_f, q_v_f, q_u_f, q_fn_f, q_cp_f, q_sg_pg, q_sg_hc, q_lt_t, q_lt_f, q_le_t, q_le_f, q_eq_t, q_eq_f, ne_eq, eq_self, Bool.false_eq_true, Bool.true_eq_false, not_true_eq_false, not_false_eq_true, true_and, and_true, false_and, and_false, true_or, or_true, false_or, or_false, if_true, if_false, Int.reduceAdd, Int.reduceMul, Int.reduceSub, Int.reduceNeg, g39, g36, g06, e1, e2', R_323_34, R_323_41, C_323_48, R_323_51, R_323_63]) (t := v) (fun _ _ _ _ => rfl)
    have w39 : q_g w 285 39 = cNo T + sc + 1 := by
      show (w 285 39).toInt = _
      rw [w2 285 39 (by omega) (by omega)]
      exact v3.1
    refine ⟨odz r (cNo T + sc + 1).toNat, t, w, ?_, ?_, Big_sm B (fun k z hz => ?_)⟩
    · simp (disch := first | omega | exact q_b_01 _) only [↓reduceIte, q_bk0, q_bk1, q_bk2, q_sg_b, q_b_0, q_b_n0, q_b_1, q_b_n1, q_b_T, q_b_F, q_sg_g, q_sg_sg, q_sg_xs, q_sg_id, q_gu_ne, q_gu_eq, q_g_fne, q_g_cpe, q_w_f, q_v_f, q_u_f, q_fn_f, q_cp_f, q_sg_pg, q_sg_hc, q_lt_t, q_lt_f, q_le_t, q_le_f, q_eq_t, q_eq_f, ne_eq, eq_self, Bool.false_eq_true, Bool.true_eq_false, not_true_eq_false, not_false_eq_true, true_and, and_true, false_and, and_false, true_or, or_true, false_or, or_false, if_true, if_false, Int.reduceAdd, Int.reduceMul, Int.reduceSub, Int.reduceNeg, u1, R_162_0, R_162_4, R_162_10, R_162_12, R_162_23, R_162_42, R_162_47, R_162_54, C_162_1, C_162_39]
      refine t1.trans ?_
      rw [R_162_18]
      simp (disch := first | omega | exact q_b_01 _) only [↓reduceIte, q_bk0, q_bk1, q_bk2, q_sg_b, q_b_0, q_b_n0, q_b_1, q_b_n1, q_b_T, q_b_F, q_sg_g, q_sg_sg, q_sg_xs, q_sg_id, q_gu_ne, q_gu_eq, q_g_fne, q_g_cpe, q_w_f, q_v_f, q_u_f, q_fn_f, q_cp_f, q_sg_pg, q_sg_hc, q_lt_t, q_lt_f, q_le_t, q_le_f, q_eq_t, q_eq_f, ne_eq, eq_self, Bool.false_eq_true, Bool.true_eq_false, not_true_eq_false, not_false_eq_true, true_and, and_true, false_and, and_false, true_or, or_true, false_or, or_false, if_true, if_false, Int.reduceAdd, Int.reduceMul, Int.reduceSub, Int.reduceNeg, R_162_54]
    · simp (disch := first | omega | exact q_b_01 _) only [↓reduceIte, q_bk0, q_bk1, q_bk2, q_sg_b, q_b_0, q_b_n0, q_b_1, q_b_n1, q_b_T, q_b_F, q_sg_g, q_sg_sg, q_sg_xs, q_sg_id, q_gu_ne, q_gu_eq, q_g_fne, q_g_cpe, q_w_f, q_v_f, q_u_f, q_fn_f, q_cp_f, q_sg_pg, q_sg_hc, q_lt_t, q_lt_f, q_le_t, q_le_f, q_eq_t, q_eq_f, ne_eq, eq_self, Bool.false_eq_true, Bool.true_eq_false, not_true_eq_false, not_false_eq_true, true_and, and_true, false_and, and_false, true_or, or_true, false_or, or_false, if_true, if_false, Int.reduceAdd, Int.reduceMul, Int.reduceSub, Int.reduceNeg, v1, v2, R_323_0, R_323_5, R_323_9, R_323_16, R_323_20, R_323_23, R_323_34, R_323_41, R_323_51, R_323_63, R_323_70, C_323_6, C_323_48]
      refine w1.trans ?_
      rw [R_323_26]
      simp (disch := first | omega | exact q_b_01 _) only [↓reduceIte, q_bk0, q_bk1, q_bk2, q_sg_b, q_b_0, q_b_n0, q_b_1, q_b_n1, q_b_T, q_b_F, q_sg_g, q_sg_sg, q_sg_xs, q_sg_id, q_gu_ne, q_gu_eq, q_g_fne, q_g_cpe, q_w_f, q_v_f, q_u_f, q_fn_f, q_cp_f, q_sg_pg, q_sg_hc, q_lt_t, q_lt_f, q_le_t, q_le_f, q_eq_t, q_eq_f, ne_eq, eq_self, Bool.false_eq_true, Bool.true_eq_false, not_true_eq_false, not_false_eq_true, true_and, and_true, false_and, and_false, true_or, or_true, false_or, or_false, if_true, if_false, Int.reduceAdd, Int.reduceMul, Int.reduceSub, Int.reduceNeg, w39, R_323_70]
    · unfold relz relc at hz
      rw [w2 k z (by omega) (by omega), v4 k z (by omega) (by omega), q_u_n (by omega), t2 k z (by omega) (by omega), u3 k z (by omega)]
end CMS
