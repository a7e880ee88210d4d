/-! THE REFERENCE: a plan is carried out -/
noncomputable def PfF (s u : Nat → Int → Int32) : Prop := ∀ k z, k ≠ 286 → ¬ (k = 285 ∧ (z = 9 ∨ z = 10 ∨ z = 11 ∨ z = 13 ∨ z = 15 ∨ z = 16 ∨ z = 40)) → k ≠ 291 → u k z = s k z
section MPF
variable {d L : Nat} {xs : Nat → Int32} {s : Nat → Int → Int32} {O : Nat → Int64} {c : Bool × Nat × Nat} {m pl y : Int → Int} {b k sc pw : Int} {T : Option Tr} {Lf Lv : Int → Prop} {dr : Bool}
theorem mm_perf (I : Inv m b) (hb : b < 2147483646) (PT : PTo T) (pI : PlI m T Lf sc pl) (s0 : 0 ≤ sc) (s8 : sc ≤ 8) (kn : 0 ≤ cNo T) (Kc : cNo T + sc ≤ cap m) (pw0 : -2147483648 ≤ pw) (pw1 : pw < 2147483648) {g lw ln le cd : Int → Int} (hL : LawP m g lw ln le cd) : ∀ (f : Nat) (k : Int) (y : Int → Int) (s : Nat → Int → Int32), cNo T + sc + 1 - k = f → 0 ≤ k → q_g s 286 = y → q_g s 305 = pl → q_g s 285 39 = cNo T + sc + 1 → (∀ i, 0 ≤ i → i ≤ cNo T + sc → q_g s 306 i = wq m (cNo T + sc) i) → q_g s 285 40 = k → Mid m (cNo T + sc) pl k y → ∃ u, EV (d + 37) 285 15 [.ref 285, .int (q_I (pw)), .int (q_I (bI dr)), .int (q_I (hc m 0 + 1)), .int (q_I (k))] [] (q_h L xs s O c) = some (.inl (some (.int (q_I ((prfm m pl (cNo T + sc) dr pw f k y).1)))), q_h L xs (u) O c) ∧ q_g u 286 = (prfm m pl (cNo T + sc) dr pw f k y).2 ∧ PfF s u
  | 0, k, y, s, hf, k0, em, ep, h39, h06, h40, M => by
    have e : k = cNo T + sc + 1 := by omega
    have Tk := inv_tk I (by omega)
    have ct := TK_ct Tk (show 0 ≤ cNo T + sc by omega) Kc
    have h0 := I.1.2.2.2.1
    have m6 := M.1 6 (by omega) (by omega) (by omega)
    have i6 := I.2.2.1
    have g6 : q_g s 286 6 = m 6 := by rw [em, m6]
    obtain ⟨u, u1, u2, u3⟩ := mm_logs (d := d + 35) (L := L) (xs := xs) (s := s) (O := O) (c := c) (num := hc m 0 + 1) (what := 0) (by omega) (by omega) (by omega) (by omega) (by omega) (by omega)
    have e0 : (prfm m pl (cNo T + sc) dr pw 0 k y).1 = 0 := rfl
    refine ⟨u, ?_, ?_, fun k z a1 a2 a3 => u3 k z a1⟩
    · rw [e0, R_285_15]
      simp (disch := first | omega | exact q_b_01 _) only [↓reduceIte, q_bk0, q_bk1, q_bk2, q_sg_b, q_b_0, q_b_n0, q_b_1, q_b_n1, q_b_T, q_b_F, q_sg_g, q_sg_sg, q_sg_xs, q_sg_id, q_gu_ne, q_gu_eq, q_g_fne, q_g_cpe, q_w_f, q_v_f, q_u_f, q_fn_f, q_cp_f, q_sg_pg, q_sg_hc, q_lt_t, q_lt_f, q_le_t, q_le_f, q_eq_t, q_eq_f, ne_eq, eq_self, Bool.false_eq_true, Bool.true_eq_false, not_true_eq_false, not_false_eq_true, true_and, and_true, false_and, and_false, true_or, or_true, false_or, or_false, if_true, if_false, Int.reduceAdd, Int.reduceMul, Int.reduceSub, Int.reduceNeg, h39, u1, R_285_0, R_285_4, R_285_12, R_285_24, R_285_35, R_285_39, R_285_45, R_285_52, R_285_55, R_285_61, R_285_72, R_285_78, R_285_80, R_285_94, R_285_102, R_285_103, R_285_114, R_285_124, R_285_130, R_285_137, R_285_143, C_285_1, C_285_32, C_285_42, C_285_69, C_285_75, C_285_99, C_285_111, C_285_140]
    · rw [u2, em, h40, e]
      rfl
  | f + 1, k, y, s, hf, k0, em, ep, h39, h06, h40, M => by
    have Tk := inv_tk I (by omega)
    have K0 : 0 ≤ cNo T + sc := by omega
    have ct := TK_ct Tk K0 Kc
    have h0 := I.1.2.2.2.1
    have k1 : k ≤ cNo T + sc := by omega
    have qr := wq_rg Tk K0 Kc k0 k1
    have hq0 : ∀ i, 0 ≤ i → i < k → 0 ≤ wq m (cNo T + sc) i := fun i i0 i1 => (wq_rg Tk K0 Kc i0 (show i ≤ cNo T + sc by omega)).1
    have w06 := h06 k k0 k1
    have fc := Mid_fcs Tk I K0 Kc k0 k1 M
    have Iy := Mid_inv I hb PT pI s0 kn Kc k0 k1 M
    have Iy' := Mid_inv I hb PT pI s0 kn Kc k0 k1 (Mid_sdr (dr := dr) M hq0)
    have good : wq m (cNo T + sc) k < 2 ∨ (1 ≤ pl (16 * wq m (cNo T + sc) k) ∧ pl (16 * wq m (cNo T + sc) k) ≤ 3 ∧ 0 ≤ pl (16 * wq m (cNo T + sc) k + 1) ∧ pl (16 * wq m (cNo T + sc) k + 1) ≤ 6) := by
      have hh := hd_01 m
      by_cases e : k = cNo T + sc
      · rw [e, wq_K]
        exact Or.inl (by omega)
      · obtain ⟨b1, b2, b3, b4⟩ := wq_tk Tk K0 Kc k0 (show k < cNo T + sc by omega)
        obtain ⟨g1, g2, g3, g4, g5⟩ := pl_good Tk PT pI s0 Kc b3
        exact Or.inr ⟨by omega, by omega, g2, g3⟩
    have hR : Rg (fcs m pl (wq m (cNo T + sc) k)) := fcs_Rg I (by omega) qr.1 qr.2 good
    have le : ∀ z, z = 1 ∨ z = 2 ∨ 1049 ≤ z → y z = m z := fun z hz => M.1 z (by omega) (by omega) (by omega)
    obtain ⟨t, t1, t2, t3, t4⟩ := mm_asks (d := d) (L := L) (xs := xs) (s := s) (O := O) (c := c) (pl := pl) (p := wq m (cNo T + sc) k) em Iy (LawP_ext hL le) qr.1 qr.2 (Or.inr ⟨by rw [ep], by rw [ep]⟩) (by rw [fc]; exact hR)
    have er : clp (y 3 + LTot y (fcs y pl (wq m (cNo T + sc) k)) 2 - LTot y (fcs y pl (wq m (cNo T + sc) k)) 3) = rsk m pl (wq m (cNo T + sc) k) := by
      unfold rsk
      rw [fc, LTot_ext le, LTot_ext le, M.1 3 (by omega) (by omega) (by omega)]
    have ec : 1 + LTot y (fcs y pl (wq m (cNo T + sc) k)) 4 = cst m pl (wq m (cNo T + sc) k) := by
      unfold cst
      rw [fc, LTot_ext le]
    rw [er] at t2
    rw [ec] at t3
    have rr : 0 ≤ rsk m pl (wq m (cNo T + sc) k) ∧ rsk m pl (wq m (cNo T + sc) k) ≤ 100 := by
      unfold rsk clp
      repeat' split
      all_goals omega
    have cr : 0 ≤ cst m pl (wq m (cNo T + sc) k) ∧ cst m pl (wq m (cNo T + sc) k) ≤ 1189 := by
      have := LTot_rg (w := 4) hL hR
      unfold cst
      omega
    have gt : ∀ k z, ¬ (k = 285 ∧ (z = 9 ∨ z = 10 ∨ z = 11 ∨ z = 13 ∨ z = 15 ∨ z = 16)) → k ≠ 291 → q_g t k z = q_g s k z := fun k z a1 a2 => by
      show (t k z).toInt = _
      rw [t4 k z a1 a2]
      rfl
    have et : q_g t 286 = y := by
      rw [← em]
      exact funext fun z => gt 286 z (by omega) (by omega)
    -- the decision
    have dec : ∃ s1, (EV (d + 37) 285 15 [.ref 285, .int (q_I (pw)), .int (q_I (bI dr)), .int (q_I (hc m 0 + 1)), .int (q_I (k))] [] (q_h L xs s O c) = if flz dr pw k (rsk m pl (wq m (cNo T + sc) k)) (y 7) then EV (d + 37) 285 61 [.ref 285, .int (q_I (pw)), .int (q_I (bI dr)), .int (q_I (hc m 0 + 1)), .int (q_I (k))] [] (q_h L xs (s1) O c) else EV (d + 37) 285 80 [.ref 285, .int (q_I (pw)), .int (q_I (bI dr)), .int (q_I (hc m 0 + 1)), .int (q_I (k))] [] (q_h L xs (s1) O c)) ∧ q_g s1 286 = sdr dr y ∧ ∀ k z, k ≠ 286 → s1 k z = t k z := by
      cases dr with
      | false =>
        refine ⟨t, ?_, et, fun _ _ _ => rfl⟩
        have e0 : bI false = 0 := rfl
        rw [R_285_15, e0]
        by_cases cf : pw ≤ k
        · have ef : flz false pw k (rsk m pl (wq m (cNo T + sc) k)) (y 7) := cf
          rw [if_pos ef]
          simp (disch := first | omega | exact q_b_01 _) only [↓reduceIte, q_bk0, q_bk1, q_bk2, q_sg_b, q_b_0, q_b_n0, q_b_1, q_b_n1, q_b_T, q_b_F, q_sg_g, q_sg_sg, q_sg_xs, q_sg_id, q_gu_ne, q_gu_eq, q_g_fne, q_g_cpe, q_w_f, q_v_f, q_u_f, q_fn_f, q_cp_f, q_sg_pg, q_sg_hc, q_lt_t, q_lt_f, q_le_t, q_le_f, q_eq_t, q_eq_f, ne_eq, eq_self, Bool.false_eq_true, Bool.true_eq_false, not_true_eq_false, not_false_eq_true, true_and, and_true, false_and, and_false, true_or, or_true, false_or, or_false, if_true, if_false, Int.reduceAdd, Int.reduceMul, Int.reduceSub, Int.reduceNeg, h39, w06, t1, R_285_24, C_285_32, R_285_35, R_285_55]
        · have ef : ¬ flz false pw k (rsk m pl (wq m (cNo T + sc) k)) (y 7) := cf
          rw [if_neg ef]
          simp (disch := first | omega | exact q_b_01 _) only [↓reduceIte, q_bk0, q_bk1, q_bk2, q_sg_b, q_b_0, q_b_n0, q_b_1, q_b_n1, q_b_T, q_b_F, q_sg_g, q_sg_sg, q_sg_xs, q_sg_id, q_gu_ne, q_gu_eq, q_g_fne, q_g_cpe, q_w_f, q_v_f, q_u_f, q_fn_f, q_cp_f, q_sg_pg, q_sg_hc, q_lt_t, q_lt_f, q_le_t, q_le_f, q_eq_t, q_eq_f, ne_eq, eq_self, Bool.false_eq_true, Bool.true_eq_false, not_true_eq_false, not_false_eq_true, true_and, and_true, false_and, and_false, true_or, or_true, false_or, or_false, if_true, if_false, Int.reduceAdd, Int.reduceMul, Int.reduceSub, Int.reduceNeg, h39, w06, t1, R_285_24, C_285_32, R_285_35, R_285_55]
      | true =>
        have dw := mm_draw (d := d + 36) (L := L) (xs := xs) (s := t) (O := O) (c := c) (n := 100) (by omega) (by omega)
        rw [et] at dw
        have q100 := q_rm_100 (drw (sdn (y 7)))
        have g15 : q_g (q_u t 286 7 (1103515245 * y 7 + 12345)) 285 15 = rsk m pl (wq m (cNo T + sc) k) := by rw [q_gu_ne (by omega), t2]
        refine ⟨q_u t 286 7 (1103515245 * y 7 + 12345), ?_, by rw [q_g_u286, et]; rfl, fun k z hk => q_u_n (by omega)⟩
        have e0 : bI true = 1 := rfl
        rw [R_285_15, e0]
        by_cases cf : q_rm (drw (sdn (y 7))) 100 < rsk m pl (wq m (cNo T + sc) k)
        · have ef : flz true pw k (rsk m pl (wq m (cNo T + sc) k)) (y 7) := cf
          rw [if_pos ef]
          simp (disch := first | omega | exact q_b_01 _) only [↓reduceIte, q_bk0, q_bk1, q_bk2, q_sg_b, q_b_0, q_b_n0, q_b_1, q_b_n1, q_b_T, q_b_F, q_sg_g, q_sg_sg, q_sg_xs, q_sg_id, q_gu_ne, q_gu_eq, q_g_fne, q_g_cpe, q_w_f, q_v_f, q_u_f, q_fn_f, q_cp_f, q_sg_pg, q_sg_hc, q_lt_t, q_lt_f, q_le_t, q_le_f, q_eq_t, q_eq_f, ne_eq, eq_self, Bool.false_eq_true, Bool.true_eq_false, not_true_eq_false, not_false_eq_true, true_and, and_true, false_and, and_false, true_or, or_true, false_or, or_false, if_true, if_false, Int.reduceAdd, Int.reduceMul, Int.reduceSub, Int.reduceNeg, h39, w06, t1, dw, g15, R_285_24, C_285_32, R_285_35, R_285_39, C_285_42, R_285_45, R_285_52]
        · have ef : ¬ flz true pw k (rsk m pl (wq m (cNo T + sc) k)) (y 7) := cf
          rw [if_neg ef]
          simp (disch := first | omega | exact q_b_01 _) only [↓reduceIte, q_bk0, q_bk1, q_bk2, q_sg_b, q_b_0, q_b_n0, q_b_1, q_b_n1, q_b_T, q_b_F, q_sg_g, q_sg_sg, q_sg_xs, q_sg_id, q_gu_ne, q_gu_eq, q_g_fne, q_g_cpe, q_w_f, q_v_f, q_u_f, q_fn_f, q_cp_f, q_sg_pg, q_sg_hc, q_lt_t, q_lt_f, q_le_t, q_le_f, q_eq_t, q_eq_f, ne_eq, eq_self, Bool.false_eq_true, Bool.true_eq_false, not_true_eq_false, not_false_eq_true, true_and, and_true, false_and, and_false, true_or, or_true, false_or, or_false, if_true, if_false, Int.reduceAdd, Int.reduceMul, Int.reduceSub, Int.reduceNeg, h39, w06, t1, dw, g15, R_285_24, C_285_32, R_285_35, R_285_39, C_285_42, R_285_45]
    obtain ⟨s1, d1, d2, d3⟩ := dec
    have g1 : ∀ k z, k ≠ 286 → q_g s1 k z = q_g t k z := fun k z hk => by
      show (s1 k z).toInt = _
      rw [d3 k z hk]
      rfl
    have w06' : q_g s1 306 k = wq m (cNo T + sc) k := by rw [g1 306 k (by omega), gt 306 k (by omega) (by omega), w06]
    have wear := Iy'.1.2.2.1 (wq m (cNo T + sc) k) qr.1 qr.2
    rw [d1]
    unfold prfm
    by_cases cf : flz dr pw k (rsk m pl (wq m (cNo T + sc) k)) (y 7)
    · rw [if_pos cf, if_pos cf]
      obtain ⟨v, v1, v2, v3⟩ := mm_tears (d := d + 34) (L := L) (xs := xs) (s := s1) (O := O) (c := c) (p := wq m (cNo T + sc) k) qr.1 qr.2 (by rw [d2]; exact wear.1) (by rw [d2]; exact wear.2.1)
      rw [d2] at v2
      have v6 : q_g v 286 6 = m 6 := by rw [v2, lsp_n (by omega), trp_n (by omega), sdr_n (by omega), M.1 6 (by omega) (by omega) (by omega)]
      have i6 := I.2.2.1
      have v40 : q_g v 285 40 = k := by
        show (v 285 40).toInt = k
        rw [v3 285 40 (by omega), d3 285 40 (by omega), t4 285 40 (by omega) (by omega)]
        exact h40
      obtain ⟨w, w1, w2, w3⟩ := mm_logs (d := d + 35) (L := L) (xs := xs) (s := v) (O := O) (c := c) (num := hc m 0 + 1) (what := 1) (by omega) (by omega) (by omega) (by omega) (by omega) (by omega)
      refine ⟨w, ?_, ?_, fun k z a1 a2 a3 => by rw [w3 k z a1, v3 k z a1, d3 k z a1, t4 k z (by omega) a3]⟩
      · dsimp only
        simp (disch := first | omega | exact q_b_01 _) only [↓reduceIte, q_bk0, q_bk1, q_bk2, q_sg_b, q_b_0, q_b_n0, q_b_1, q_b_n1, q_b_T, q_b_F, q_sg_g, q_sg_sg, q_sg_xs, q_sg_id, q_gu_ne, q_gu_eq, q_g_fne, q_g_cpe, q_w_f, q_v_f, q_u_f, q_fn_f, q_cp_f, q_sg_pg, q_sg_hc, q_lt_t, q_lt_f, q_le_t, q_le_f, q_eq_t, q_eq_f, ne_eq, eq_self, Bool.false_eq_true, Bool.true_eq_false, not_true_eq_false, not_false_eq_true, true_and, and_true, false_and, and_false, true_or, or_true, false_or, or_false, if_true, if_false, Int.reduceAdd, Int.reduceMul, Int.reduceSub, Int.reduceNeg, w06', v1, w1, R_285_61, C_285_69, R_285_72, C_285_75, R_285_78]
      · rw [w2, v2, v40]
    · rw [if_neg cf, if_neg cf]
      have y4 := M.2.2.2
      have c4 : q_g s1 286 4 = y 4 := by rw [d2, sdr_n (by omega)]
      have c16 : q_g s1 285 16 = cst m pl (wq m (cNo T + sc) k) := by rw [g1 285 16 (by omega), t3]
      have lz := mm_lesser (d := d + 36) (L := L) (xs := xs) (s := s1) (O := O) (c := c) (a := 99999) (b := y 4 + cst m pl (wq m (cNo T + sc) k))
      have em' : (if q_sg 99999 < q_sg (y 4 + cst m pl (wq m (cNo T + sc) k)) then (99999 : Int) else y 4 + cst m pl (wq m (cNo T + sc) k)) = mn 99999 (y 4 + cst m pl (wq m (cNo T + sc) k)) := by
        unfold mn
        rw [q_sg_id (x := y 4 + cst m pl (wq m (cNo T + sc) k)) (by omega) (by omega), q_sg_id (x := 99999) (by omega) (by omega)]
      rw [em'] at lz
      have mr := mn_rg (a := 99999) (c := y 4 + cst m pl (wq m (cNo T + sc) k)) (by omega) (by omega)
      generalize hS : q_u s1 286 4 (mn 99999 (y 4 + cst m pl (wq m (cNo T + sc) k))) = S
      have eS : q_g S 286 = up (sdr dr y) 4 (mn 99999 (y 4 + cst m pl (wq m (cNo T + sc) k))) := by rw [← hS, q_g_u286, d2, q_sg_id (by omega) (by omega)]
      have S06 : q_g S 306 k = wq m (cNo T + sc) k := by rw [← hS, q_gu_ne (by omega), w06']
      have S05 : q_g S 305 = pl := by
        rw [← ep, ← hS]
        exact funext fun z => by rw [q_gu_ne (by omega), g1 305 z (by omega), gt 305 z (by omega) (by omega)]
      have Sw : pg (q_g S 286) (wq m (cNo T + sc) k) 2 = pg (sdr dr y) (wq m (cNo T + sc) k) 2 := by
        rw [eS]
        exact up_ne (by omega)
      obtain ⟨v, v1, v2, v3⟩ := mm_isWritten (d := d + 34) (L := L) (xs := xs) (s := S) (O := O) (c := c) (p := wq m (cNo T + sc) k) qr.1 qr.2 (by rw [Sw]; exact wear.1) (by rw [Sw]; exact wear.2.1)
      have ev : q_g v 286 = stp m pl (wq m (cNo T + sc) k) dr y := by
        rw [v2, S05, eS]
        rfl
      have v40 : q_g v 285 40 = k := by
        show (v 285 40).toInt = k
        rw [v3 285 40 (by omega), ← hS, q_u_n (by omega), d3 285 40 (by omega), t4 285 40 (by omega) (by omega)]
        exact h40
      have gv : ∀ k z, k ≠ 286 → ¬ (k = 285 ∧ (z = 9 ∨ z = 10 ∨ z = 11 ∨ z = 13 ∨ z = 15 ∨ z = 16 ∨ z = 40)) → k ≠ 291 → q_u v 285 40 (q_g v 285 40 + 1) k z = s k z := fun k z a1 a2 a3 => by rw [q_u_n (by omega), v3 k z a1, ← hS, q_u_n (by omega), d3 k z a1, t4 k z (by omega) a3]
      have gg : ∀ k z, k ≠ 286 → ¬ (k = 285 ∧ (z = 9 ∨ z = 10 ∨ z = 11 ∨ z = 13 ∨ z = 15 ∨ z = 16 ∨ z = 40)) → k ≠ 291 → q_g (q_u v 285 40 (q_g v 285 40 + 1)) k z = q_g s k z := fun k z a1 a2 a3 => by
        show (q_u v 285 40 (q_g v 285 40 + 1) k z).toInt = _
        rw [gv k z a1 a2 a3]
        rfl
      obtain ⟨w, w1, w2, w3⟩ := mm_perf I hb PT pI s0 s8 kn Kc pw0 pw1 hL f (k + 1) (stp m pl (wq m (cNo T + sc) k) dr y) (q_u v 285 40 (q_g v 285 40 + 1)) (by omega) (by omega) (by rw [q_u_f (by omega)]; exact ev) (by rw [← ep]; exact funext fun z => gg 305 z (by omega) (by omega) (by omega)) (by rw [gg 285 39 (by omega) (by omega) (by omega)]; exact h39) (fun i i0 i1 => by rw [gg 306 i (by omega) (by omega) (by omega)]; exact h06 i i0 i1) (by rw [q_gu_eq rfl, v40, q_sg_id (by omega) (by omega)]) (Mid_1 Tk I K0 Kc k0 (by omega) M cr.1)
      refine ⟨w, ?_, w2, fun k z a1 a2 a3 => by rw [w3 k z a1 a2 a3, gv k z a1 a2 a3]⟩
      rw [← w1]
      simp (disch := first | omega | exact q_b_01 _) only [↓reduceIte, q_bk0, q_bk1, q_bk2, q_sg_b, q_b_0, q_b_n0, q_b_1, q_b_n1, q_b_T, q_b_F, q_sg_g, q_sg_sg, q_sg_xs, q_sg_id, q_gu_ne, q_gu_eq, q_g_fne, q_g_cpe, q_w_f, q_v_f, q_u_f, q_fn_f, q_cp_f, q_sg_pg, q_sg_hc, q_lt_t, q_lt_f, q_le_t, q_le_f, q_eq_t, q_eq_f, ne_eq, eq_self, Bool.false_eq_true, Bool.true_eq_false, not_true_eq_false, not_false_eq_true, true_and, and_true, false_and, and_false, true_or, or_true, false_or, or_false, if_true, if_false, Int.reduceAdd, Int.reduceMul, Int.reduceSub, Int.reduceNeg, c4, c16, lz, hS, S06, v1, R_285_80, R_285_94, C_285_99, R_285_102, R_285_103, C_285_111, R_285_114, R_285_124]
end MPF
