/-! THE CLASS: a plan is carried out -/
noncomputable def CrF (s u : Nat → Int → Int32) : Prop := ∀ k z, ¬ (7 ≤ k ∧ k ≤ 20) → k ≠ 260 → k ≠ 54 → u k z = s k z
noncomputable def bI (dr : Bool) : Int := if dr then 1 else 0
section CCR
variable {d L : Nat} {xs : Nat → Int32} {s : Nat → Int → Int32} {O : Nat → Int64} {c : Bool × Nat × Nat} {m pl y : Int → Int} {b k sc pw : Int} {T : Option Tr} {Lf Lv : Int → Prop} {dr : Bool}
theorem Mid_sdr {K : Int} (M : Mid m K pl k y) (hq : ∀ i, 0 ≤ i → i < k → 0 ≤ wq m K i) : Mid m K pl k (sdr dr y) := by
  obtain ⟨m1, m2, m3, m4, m5⟩ := M
  refine ⟨fun z hz h4 h7 => by rw [sdr_n h7]; exact m1 z hz h4 h7, fun p p0 p1 hn w w0 w1 => by rw [sdr_pg p0 w0]; exact m2 p p0 p1 hn w w0 w1, fun i i0 i1 => ?_, by rw [sdr_n (by omega)]; exact m4, by rw [sdr_n (by omega)]; exact m5⟩
  obtain ⟨b1, b2, b3⟩ := m3 i i0 i1
  have q0 := hq i i0 i1
  rw [sdr_pg q0 (by omega)]
  exact ⟨fun w w0 w1 w2 => by rw [sdr_pg q0 w0]; exact b1 w w0 w1 w2, b2, b3⟩
theorem q_rm_100 (x : Int) : -100 < q_rm x 100 ∧ q_rm x 100 < 100 := by
  unfold q_rm
  rw [q_sg_id (x := 100) (by omega) (by omega)]
  constructor
  · have := Int.lt_tmod_of_pos (q_sg x) (show (0 : Int) < 100 by omega)
    omega
  · exact Int.tmod_lt_of_pos _ (by omega)
theorem own_all (Tk : TkI m) (P : PlanC m T Lf sc s) (PT : PTo T) (pI : PlI m T Lf sc pl) (s0 : 0 ≤ sc) (s8 : sc ≤ 8) (kn : 0 ≤ cNo T) (Kc : cNo T + sc ≤ cap m) (k0 : 0 ≤ k) (k1 : k ≤ cNo T + sc) : (wq m (cNo T + sc) k < 2 ∨ OwnP pl (wq m (cNo T + sc) k) s) ∧ (wq m (cNo T + sc) k < 2 ∨ (1 ≤ pl (16 * wq m (cNo T + sc) k) ∧ pl (16 * wq m (cNo T + sc) k) ≤ 3 ∧ 0 ≤ pl (16 * wq m (cNo T + sc) k + 1) ∧ pl (16 * wq m (cNo T + sc) k + 1) ≤ 6)) ∧ WrK m T sc (wq m (cNo T + sc) k) ∧ q_g s 259 k = wq m (cNo T + sc) k := by
  have hh := hd_01 m
  have K0 : 0 ≤ cNo T + sc := by omega
  obtain ⟨l1, l2, l3, l4, l5⟩ := P.2.2.2.1
  by_cases e : k = cNo T + sc
  · rw [e, wq_K]
    exact ⟨Or.inl (by omega), Or.inl (by omega), Or.inr rfl, l3⟩
  · obtain ⟨b1, b2, b3, b4⟩ := wq_tk Tk K0 Kc k0 (show k < cNo T + sc by omega)
    have lw := l2 _ b1 b2 b3
    rw [b4] at lw
    obtain ⟨g1, g2, g3, g4, g5⟩ := pl_good Tk PT pI s0 Kc b3
    obtain ⟨i, i0, i1, ei⟩ := (TK_ex Tk Kc K0).mp b3
    refine ⟨Or.inr ?_, Or.inr ⟨by omega, by omega, g2, g3⟩, Or.inl ⟨i, i0, i1, ei⟩, lw⟩
    rw [ei]
    by_cases ik : i < cNo T
    · obtain ⟨o1, o2, o3, o4, o5, o6, o7, o8, o9⟩ := own_node P PT pI i0 ik
      exact Or.inl ⟨by omega, o2, o3, o4, o5⟩
    · obtain ⟨f1, f2⟩ := P.2.2.1
      obtain ⟨c1, c2⟩ := f2 (i - cNo T) (by omega) (by omega)
      rw [show cNo T + (i - cNo T) = i by omega] at c1 c2
      obtain ⟨p1, p2, p3, p4⟩ := pI.2.1 (i - cNo T) (by omega) (by omega)
      rw [show cNo T + (i - cNo T) = i by omega] at p1 p2
      have RCr := cnP_rg (P := Rw m Lf (cNo T + sc)) (p := 48) (by omega)
      refine Or.inr ⟨by omega, by omega, p1, by omega, by omega, ?_⟩
      rw [p2, l4, c2, show 176 + (i - cNo T) - 176 = i - cNo T by omega]
      rfl
theorem cc_pageOfWrite {q : Int} (k0 : 0 ≤ k) (k1 : k < q_g s 241 10) (k2 : k ≤ 48) (hq : q_g s 259 k = q) : EV (d) 87 0 [.ref 241, .int (q_I (k))] [] (q_h L xs s O c) = some (.inl (some (.int (q_I (q)))), q_h L xs (s) O c) := by
  have r := q_g_rg s 241 10
  simp (disch := first | omega | exact q_b_01 _) only [↓reduceIte, q_bk0, q_bk1, q_bk2, q_sg_b, q_b_0, q_b_n0, q_b_1, q_b_n1, q_b_T, q_b_F, q_sg_g, q_sg_sg, q_sg_xs, q_sg_id, q_gu_ne, q_gu_eq, q_g_fne, q_g_cpe, q_w_f, q_v_f, q_u_f, q_fn_f, q_cp_f, q_sg_pg, q_sg_hc, q_lt_t, q_lt_f, q_le_t, q_le_f, q_eq_t, q_eq_f, ne_eq, eq_self, Bool.false_eq_true, Bool.true_eq_false, not_true_eq_false, not_false_eq_true, true_and, and_true, false_and, and_false, true_or, or_true, false_or, or_false, if_true, if_false, Int.reduceAdd, Int.reduceMul, Int.reduceSub, Int.reduceNeg, hq, R_87_0, R_87_4, R_87_12, R_87_18, R_87_22, R_87_28]
theorem cc_carry (I : Inv m b) (hb : b < 2147483646) (PT : PTo T) (pI : PlI m T Lf sc pl) (s0 : 0 ≤ sc) (s8 : sc ≤ 8) (kn : 0 ≤ cNo T) (Kc : cNo T + sc ≤ cap m) (pw0 : -2147483648 ≤ pw) (pw1 : pw < 2147483648) : ∀ (f : Nat) (k : Int) (y : Int → Int) (s : Nat → Int → Int32) (x6 : Value), cNo T + sc + 1 - k = f → 0 ≤ k → PlanC m T Lf sc s → LawP m (q_g s 49) (q_g s 50) (q_g s 51) (q_g s 52) (q_g s 53) → Mid m (cNo T + sc) pl k y → RB y s 7 → ∃ u, EV (d + 6) 97 12 [.ref 241, .ref 7, .ref 49, .int (q_I (pw)), .int (q_I (bI dr)), .int (q_I (k)), x6] [] (q_h L xs s O c) = some (.inl (some (.int (q_I ((prfm m pl (cNo T + sc) dr pw f k y).1)))), q_h L xs (u) O c) ∧ RB (prfm m pl (cNo T + sc) dr pw f k y).2 u 7 ∧ CrF s u
  | 0, k, y, s, x6, hf, k0, P, hL, M, H => by
    have e : k = cNo T + sc + 1 := by omega
    have Tk := inv_tk I (by omega)
    have ct := TK_ct Tk (show 0 ≤ cNo T + sc by omega) Kc
    have h10 := P.2.2.2.1.1
    have h11 := P.2.2.2.2.1
    have h0 := I.1.2.2.2.1
    have r6 : ∀ q, 0 ≤ q → q < 48 → pg y q 1 ≤ 6 := fun q q0 q1 => by
      by_cases hw : ∃ i, 0 ≤ i ∧ i < k ∧ wq m (cNo T + sc) i = q
      · obtain ⟨i, i0, i1, ei⟩ := hw
        have y1 := (M.2.2.1 i i0 i1).1 1 (by omega) (by omega) (by omega)
        rw [ei] at y1
        rw [y1]
        have oa := (own_all Tk P PT pI s0 s8 kn Kc i0 (show i ≤ cNo T + sc by omega)).2.1
        rw [ei] at oa
        rcases oa with h | h
        · have hh := hd_01 m
          by_cases eh : q = 1 - hd m
          · rw [eh, pI.2.2.2.1]
            omega
          · exfalso
            by_cases ek : i = cNo T + sc
            · rw [ek, wq_K] at ei
              exact eh ei.symm
            · obtain ⟨b1, b2, b3, b4⟩ := wq_tk Tk (show 0 ≤ cNo T + sc by omega) Kc i0 (by omega)
              have := TK_rg Tk Kc (by omega) b3
              omega
        · exact h.2.2.2
      · rw [M.2.1 q q0 q1 (fun i i0 i1 ei => hw ⟨i, i0, i1, ei⟩) 1 (by omega) (by omega)]
        by_cases e2 : q < 2
        · have h1 := I.1.1
          rcases (show q = 0 ∨ q = 1 by omega) with e | e
          · rw [e]
            omega
          · rw [e]
            omega
        · exact (I.1.2.1 q (by omega) q1).2.2.1
    have m8 := M.1 8 (by omega) (by omega) (by omega)
    have m6 := M.1 6 (by omega) (by omega) (by omega)
    have i8 := I.2.1
    have i6 := I.2.2.1
    obtain ⟨u, u1, u2, u3⟩ := cc_addLog (d := d + 4) (L := L) (xs := xs) (s := s) (O := O) (c := c) (num := hc m 0 + 1) (what := 0) (made := cNo T + sc + 1) H r6 (by omega) (by omega) (by omega) (by omega) (by omega) (by omega) (by omega) (by omega) (by omega)
    refine ⟨u, ?_, u2, fun k z a1 a2 a3 => u3 k z (by omega) (by omega)⟩
    have e0 : (prfm m pl (cNo T + sc) dr pw 0 k y).1 = 0 := rfl
    rw [e0]
    rw [R_97_12]
    simp (disch := first | omega | exact q_b_01 _) only [↓reduceIte, q_bk0, q_bk1, q_bk2, q_sg_b, q_b_0, q_b_n0, q_b_1, q_b_n1, q_b_T, q_b_F, q_sg_g, q_sg_sg, q_sg_xs, q_sg_id, q_gu_ne, q_gu_eq, q_g_fne, q_g_cpe, q_w_f, q_v_f, q_u_f, q_fn_f, q_cp_f, q_sg_pg, q_sg_hc, q_lt_t, q_lt_f, q_le_t, q_le_f, q_eq_t, q_eq_f, ne_eq, eq_self, Bool.false_eq_true, Bool.true_eq_false, not_true_eq_false, not_false_eq_true, true_and, and_true, false_and, and_false, true_or, or_true, false_or, or_false, if_true, if_false, Int.reduceAdd, Int.reduceMul, Int.reduceSub, Int.reduceNeg, h10, h11, u1, R_97_0, R_97_7, R_97_9, R_97_21, R_97_26, R_97_30, R_97_33, R_97_41, R_97_44, R_97_48, R_97_52, R_97_58, R_97_62, R_97_63, R_97_70, R_97_80, R_97_84, R_97_88, R_97_99, R_97_101, R_97_116, R_97_120, R_97_123, R_97_137, R_97_143, R_97_156, C_97_27, C_97_38, C_97_77, C_97_81, C_97_85, C_97_96, C_97_113, C_97_117, C_97_131, C_97_134, C_97_153]
  | f + 1, k, y, s, x6, hf, k0, P, hL, M, H => by
    have Tk := inv_tk I (by omega)
    have K0 : 0 ≤ cNo T + sc := by omega
    have ct := TK_ct Tk K0 Kc
    have h10 := P.2.2.2.1.1
    have h11 := P.2.2.2.2.1
    have h0 := I.1.2.2.2.1
    obtain ⟨oa1, oa2, oa3, oa4⟩ := own_all Tk P PT pI s0 s8 kn Kc k0 (show k ≤ cNo T + sc by omega)
    have qr := wq_rg Tk K0 Kc k0 (show k ≤ cNo T + sc by omega)
    have hq0 : ∀ i, 0 ≤ i → i < k → 0 ≤ wq m (cNo T + sc) i := fun i i0 i1 => (wq_rg Tk K0 Kc i0 (show i ≤ cNo T + sc by omega)).1
    have fc := Mid_fcs Tk I K0 Kc k0 (show k ≤ cNo T + sc by omega) M
    have fc' := Mid_fcs Tk I K0 Kc k0 (show k ≤ cNo T + sc by omega) (Mid_sdr (dr := dr) M hq0)
    have Iy := Mid_inv I hb PT pI s0 kn Kc k0 (show k ≤ cNo T + sc by omega) M
    have Iy' := Mid_inv I hb PT pI s0 kn Kc k0 (show k ≤ cNo T + sc by omega) (Mid_sdr (dr := dr) M hq0)
    have hR : Rg (fcs m pl (wq m (cNo T + sc) k)) := fcs_Rg I (by omega) qr.1 qr.2 oa2
    have le : ∀ z, z = 1 ∨ z = 2 ∨ 1049 ≤ z → sdr dr y z = m z := fun z hz => by
      rw [sdr_n (by omega)]
      exact M.1 z (by omega) (by omega) (by omega)
    have hc0 := (Mid_hc Tk I K0 Kc k0 (show k ≤ cNo T + sc by omega) (Mid_sdr (dr := dr) M hq0)).2 0 (by omega) (by omega)
    have rows : ∀ q, 0 ≤ q → q < 48 → 0 ≤ pg (sdr dr y) q 1 ∧ pg (sdr dr y) q 1 ≤ 6 := fun q q0 q1 => by
      by_cases e2 : q < 2
      · have h1 := Iy'.1.1
        rcases (show q = 0 ∨ q = 1 by omega) with e | e
        · rw [e]
          omega
        · rw [e]
          omega
      · exact ⟨(Iy'.1.2.1 q (by omega) q1).2.1, (Iy'.1.2.1 q (by omega) q1).2.2.1⟩
    have rowy : ∀ q, 0 ≤ q → q < 48 → pg y q 1 ≤ 6 := fun q q0 q1 => by
      have := (rows q q0 q1).2
      rw [sdr_pg q0 (by omega)] at this
      exact this
    have y8 := Iy.2.1
    have y8' := Iy'.2.1
    have y6' := Iy'.2.2.1
    have wear := Iy'.1.2.2.1 (wq m (cNo T + sc) k) qr.1 qr.2
    -- the decision
    have dec : ∃ s1, EV (d + 6) 97 12 [.ref 241, .ref 7, .ref 49, .int (q_I (pw)), .int (q_I (bI dr)), .int (q_I (k)), x6] [] (q_h L xs s O c) = EV (d + 6) 97 63 [.ref 241, .ref 7, .ref 49, .int (q_I (pw)), .int (q_I (bI dr)), .int (q_I (k)), x6] [.int (q_I (q_b (flz dr pw k (rsk m pl (wq m (cNo T + sc) k)) (y 7))))] (q_h L xs (s1) O c) ∧ RB (sdr dr y) s1 7 ∧ ∀ k z, ¬ (k = 7 ∧ z = 9) → k ≠ 260 → k ≠ 54 → s1 k z = s k z := by
      cases dr with
      | false =>
        refine ⟨s, ?_, H, fun _ _ _ _ _ => rfl⟩
        rw [R_97_12]
        have e0 : bI false = 0 := rfl
        rw [e0]
        by_cases cf : pw ≤ k
        · have ef : flz false pw k (rsk m pl (wq m (cNo T + sc) k)) (y 7) := cf
          rw [q_bt ef]
          simp (disch := first | omega | exact q_b_01 _) only [↓reduceIte, q_bk0, q_bk1, q_bk2, q_sg_b, q_b_0, q_b_n0, q_b_1, q_b_n1, q_b_T, q_b_F, q_sg_g, q_sg_sg, q_sg_xs, q_sg_id, q_gu_ne, q_gu_eq, q_g_fne, q_g_cpe, q_w_f, q_v_f, q_u_f, q_fn_f, q_cp_f, q_sg_pg, q_sg_hc, q_lt_t, q_lt_f, q_le_t, q_le_f, q_eq_t, q_eq_f, ne_eq, eq_self, Bool.false_eq_true, Bool.true_eq_false, not_true_eq_false, not_false_eq_true, true_and, and_true, false_and, and_false, true_or, or_true, false_or, or_false, if_true, if_false, Int.reduceAdd, Int.reduceMul, Int.reduceSub, Int.reduceNeg, h10, R_97_21, R_97_52, R_97_58]
        · have ef : ¬ flz false pw k (rsk m pl (wq m (cNo T + sc) k)) (y 7) := cf
          rw [q_bf ef]
          simp (disch := first | omega | exact q_b_01 _) only [↓reduceIte, q_bk0, q_bk1, q_bk2, q_sg_b, q_b_0, q_b_n0, q_b_1, q_b_n1, q_b_T, q_b_F, q_sg_g, q_sg_sg, q_sg_xs, q_sg_id, q_gu_ne, q_gu_eq, q_g_fne, q_g_cpe, q_w_f, q_v_f, q_u_f, q_fn_f, q_cp_f, q_sg_pg, q_sg_hc, q_lt_t, q_lt_f, q_le_t, q_le_f, q_eq_t, q_eq_f, ne_eq, eq_self, Bool.false_eq_true, Bool.true_eq_false, not_true_eq_false, not_false_eq_true, true_and, and_true, false_and, and_false, true_or, or_true, false_or, or_false, if_true, if_false, Int.reduceAdd, Int.reduceMul, Int.reduceSub, Int.reduceNeg, h10, R_97_21, R_97_52, R_97_62]
      | true =>
        have dw := cc_draw (d := d + 5) (L := L) (xs := xs) (s := s) (O := O) (c := c)
        have e7 : q_g s 7 9 = y 7 := rb_seed H
        rw [e7] at dw
        have H1 : RB (sdr true y) (q_u s 7 9 (1103515245 * y 7 + 12345)) 7 := RB_seed H rowy (by omega)
        have P1 : PlanC m T Lf sc (q_u s 7 9 (1103515245 * y 7 + 12345)) := PlanC_sm P (fun k z a1 a2 => q_u_n (by omega))
        have hL1 : LawP (sdr true y) (q_g (q_u s 7 9 (1103515245 * y 7 + 12345)) 49) (q_g (q_u s 7 9 (1103515245 * y 7 + 12345)) 50) (q_g (q_u s 7 9 (1103515245 * y 7 + 12345)) 51) (q_g (q_u s 7 9 (1103515245 * y 7 + 12345)) 52) (q_g (q_u s 7 9 (1103515245 * y 7 + 12345)) 53) := LawP_ext (LawP_sm hL (fun k z a1 a2 => q_u_n (by omega))) le
        have oa := own_all Tk P1 PT pI s0 s8 kn Kc k0 (show k ≤ cNo T + sc by omega)
        obtain ⟨t, t1, t2⟩ := cc_risksOf (d := d + 1) (L := L) (xs := xs) (s := q_u s 7 9 (1103515245 * y 7 + 12345)) (O := O) (c := c) (m := sdr true y) (pl := pl) (k := k) (p := wq m (cNo T + sc) k) H1 Iy' hL1 k0 (by rw [q_gu_ne (by omega), h10]; omega) (by omega) oa.2.2.2 qr.1 qr.2 oa.1 (by rw [q_gu_ne (by omega), h11, hc0]) (by rw [fc']; exact hR)
        have er : clp (sdr true y 3 + LTot (sdr true y) (fcs (sdr true y) pl (wq m (cNo T + sc) k)) 2 - LTot (sdr true y) (fcs (sdr true y) pl (wq m (cNo T + sc) k)) 3) = rsk m pl (wq m (cNo T + sc) k) := by
          unfold rsk
          rw [fc', LTot_ext le, LTot_ext le, sdr_n (by omega), M.1 3 (by omega) (by omega) (by omega)]
        rw [er] at t1
        have q100 := q_rm_100 (drw (sdn (y 7)))
        have rr : 0 ≤ rsk m pl (wq m (cNo T + sc) k) ∧ rsk m pl (wq m (cNo T + sc) k) ≤ 100 := by
          unfold rsk clp
          repeat' split
          all_goals omega
        refine ⟨t, ?_, rb_k H1 (fun k z a1 a2 => t2 k z (by omega) (by omega)), fun k z a1 a2 a3 => by rw [t2 k z a2 a3, q_u_n (by omega)]⟩
        rw [R_97_12]
        have e0 : bI true = 1 := rfl
        rw [e0]
        by_cases cf : q_rm (drw (sdn (y 7))) 100 < rsk m pl (wq m (cNo T + sc) k)
        · have ef : flz true pw k (rsk m pl (wq m (cNo T + sc) k)) (y 7) := cf
          rw [q_bt ef]
          simp (disch := first | omega | exact q_b_01 _) only [↓reduceIte, q_bk0, q_bk1, q_bk2, q_sg_b, q_b_0, q_b_n0, q_b_1, q_b_n1, q_b_T, q_b_F, q_sg_g, q_sg_sg, q_sg_xs, q_sg_id, q_gu_ne, q_gu_eq, q_g_fne, q_g_cpe, q_w_f, q_v_f, q_u_f, q_fn_f, q_cp_f, q_sg_pg, q_sg_hc, q_lt_t, q_lt_f, q_le_t, q_le_f, q_eq_t, q_eq_f, ne_eq, eq_self, Bool.false_eq_true, Bool.true_eq_false, not_true_eq_false, not_false_eq_true, true_and, and_true, false_and, and_false, true_or, or_true, false_or, or_false, if_true, if_false, Int.reduceAdd, Int.reduceMul, Int.reduceSub, Int.reduceNeg, h10, dw, t1, R_97_21, R_97_26, C_97_27, R_97_30, R_97_33, C_97_38, R_97_41, R_97_44]
        · have ef : ¬ flz true pw k (rsk m pl (wq m (cNo T + sc) k)) (y 7) := cf
          rw [q_bf ef]
          simp (disch := first | omega | exact q_b_01 _) only [↓reduceIte, q_bk0, q_bk1, q_bk2, q_sg_b, q_b_0, q_b_n0, q_b_1, q_b_n1, q_b_T, q_b_F, q_sg_g, q_sg_sg, q_sg_xs, q_sg_id, q_gu_ne, q_gu_eq, q_g_fne, q_g_cpe, q_w_f, q_v_f, q_u_f, q_fn_f, q_cp_f, q_sg_pg, q_sg_hc, q_lt_t, q_lt_f, q_le_t, q_le_f, q_eq_t, q_eq_f, ne_eq, eq_self, Bool.false_eq_true, Bool.true_eq_false, not_true_eq_false, not_false_eq_true, true_and, and_true, false_and, and_false, true_or, or_true, false_or, or_false, if_true, if_false, Int.reduceAdd, Int.reduceMul, Int.reduceSub, Int.reduceNeg, h10, dw, t1, R_97_21, R_97_26, C_97_27, R_97_30, R_97_33, C_97_38, R_97_41, R_97_48]
    obtain ⟨s1, d1, d2, d3⟩ := dec
    have P1 : PlanC m T Lf sc s1 := PlanC_sm P (fun k z a1 a2 => d3 k z (by omega) (by omega) (by omega))
    have hL1 : LawP m (q_g s1 49) (q_g s1 50) (q_g s1 51) (q_g s1 52) (q_g s1 53) := LawP_sm hL (fun k z a1 a2 => d3 k z (by omega) (by omega) (by omega))
    have oa := own_all Tk P1 PT pI s0 s8 kn Kc k0 (show k ≤ cNo T + sc by omega)
    have pw' := cc_pageOfWrite (d := d + 5) (L := L) (xs := xs) (s := s1) (O := O) (c := c) k0 (by rw [P1.2.2.2.1.1]; omega) (by omega) oa.2.2.2
    rw [d1]
    unfold prfm
    by_cases cf : flz dr pw k (rsk m pl (wq m (cNo T + sc) k)) (y 7)
    · rw [if_pos cf, q_bt cf]
      obtain ⟨t, t1, t2, t3⟩ := cc_tear (d := d + 4) (L := L) (xs := xs) (s := s1) (O := O) (c := c) d2 rows (by omega) (by omega) qr.1 qr.2 wear.1 wear.2.1
      have rt : ∀ q, 0 ≤ q → q < 48 → pg (trp (wq m (cNo T + sc) k) (sdr dr y)) q 1 ≤ 6 := fun q q0 q1 => by
        by_cases e : q = wq m (cNo T + sc) k
        · rw [e]
          unfold pg trp
          rw [if_pos (by omega), if_neg (by omega), if_neg (by omega), if_neg (by omega)]
          omega
        · have := (rows q q0 q1).2
          show trp _ _ (281 + 16 * q + 1) ≤ 6
          rw [trp_n (by omega)]
          exact this
      obtain ⟨v, v1, v2, v3⟩ := cc_losePower (d := d + 4) (L := L) (xs := xs) (s := t) (O := O) (c := c) t2 rt
      have h11v : q_g v 241 11 = hc m 0 + 1 := by
        show (v 241 11).toInt = _
        rw [v3 241 11 (by omega) (by omega) (by omega), t3 241 11 (by omega) (by omega) (by omega), d3 241 11 (by omega) (by omega) (by omega)]
        exact h11
      have e6 : lsp (trp (wq m (cNo T + sc) k) (sdr dr y)) 6 = sdr dr y 6 := by rw [lsp_n (by omega), trp_n (by omega)]
      obtain ⟨w, w1, w2, w3⟩ := cc_addLog (d := d + 4) (L := L) (xs := xs) (s := v) (O := O) (c := c) (num := hc m 0 + 1) (what := 1) (made := k) v2 (fun q q0 q1 => by rw [show pg (lsp (trp (wq m (cNo T + sc) k) (sdr dr y))) q 1 = pg (trp (wq m (cNo T + sc) k) (sdr dr y)) q 1 from lsp_n (by omega)]; exact rt q q0 q1) (by show (0 : Int) ≤ 12; omega) (by omega) (by omega) (by omega) (by omega) (by omega) (by omega) (by omega) (by omega)
      refine ⟨w, ?_, w2, fun k z a1 a2 a3 => by rw [w3 k z (by omega) (by omega), v3 k z (by omega) (by omega) (by omega), t3 k z (by omega) (by omega) (by omega), d3 k z (by omega) a2 a3]⟩
      dsimp only
      simp (disch := first | omega | exact q_b_01 _) only [↓reduceIte, q_bk0, q_bk1, q_bk2, q_sg_b, q_b_0, q_b_n0, q_b_1, q_b_n1, q_b_T, q_b_F, q_sg_g, q_sg_sg, q_sg_xs, q_sg_id, q_gu_ne, q_gu_eq, q_g_fne, q_g_cpe, q_w_f, q_v_f, q_u_f, q_fn_f, q_cp_f, q_sg_pg, q_sg_hc, q_lt_t, q_lt_f, q_le_t, q_le_f, q_eq_t, q_eq_f, ne_eq, eq_self, Bool.false_eq_true, Bool.true_eq_false, not_true_eq_false, not_false_eq_true, true_and, and_true, false_and, and_false, true_or, or_true, false_or, or_false, if_true, if_false, Int.reduceAdd, Int.reduceMul, Int.reduceSub, Int.reduceNeg, pw', t1, v1, h11v, w1, R_97_0, R_97_7, R_97_9, R_97_21, R_97_26, R_97_30, R_97_33, R_97_41, R_97_44, R_97_48, R_97_52, R_97_58, R_97_62, R_97_63, R_97_70, R_97_80, R_97_84, R_97_88, R_97_99, R_97_101, R_97_116, R_97_120, R_97_123, R_97_137, R_97_143, R_97_156, C_97_27, C_97_38, C_97_77, C_97_81, C_97_85, C_97_96, C_97_113, C_97_117, C_97_131, C_97_134, C_97_153]
    · rw [if_neg cf, q_bf cf]
      obtain ⟨t, t1, t2⟩ := cc_costsOf (d := d + 1) (L := L) (xs := xs) (s := s1) (O := O) (c := c) (m := sdr dr y) (pl := pl) (k := k) (p := wq m (cNo T + sc) k) d2 (LawP_ext hL1 le) k0 (by rw [P1.2.2.2.1.1]; omega) (by omega) oa.2.2.2 qr.1 qr.2 oa.1 (by rw [P1.2.2.2.2.1, hc0]) (by rw [fc']; exact hR)
      have er : 1 + LTot (sdr dr y) (fcs (sdr dr y) pl (wq m (cNo T + sc) k)) 4 = cst m pl (wq m (cNo T + sc) k) := by
        unfold cst
        rw [fc', LTot_ext le]
      rw [er] at t1
      have cr : 0 ≤ cst m pl (wq m (cNo T + sc) k) ∧ cst m pl (wq m (cNo T + sc) k) ≤ 1189 := by
        have := LTot_rg (w := 4) hL hR
        unfold cst
        omega
      have Ht : RB (sdr dr y) t 7 := rb_k d2 (fun k z a1 a2 => t2 k z (by omega) (by omega))
      have c7 : q_g s1 7 7 = y 4 := by
        rw [rb_cost d2]
        exact sdr_n (by omega)
      have y4 := M.2.2.2
      have mi := jj_min (d := d + 5) (L := L) (xs := xs) (s := t) (O := O) (c := c) (x := 99999) (y := y 4 + cst m pl (wq m (cNo T + sc) k))
      have em : (if q_sg (y 4 + cst m pl (wq m (cNo T + sc) k)) < q_sg 99999 then y 4 + cst m pl (wq m (cNo T + sc) k) else 99999) = mn 99999 (y 4 + cst m pl (wq m (cNo T + sc) k)) := by
        unfold mn
        rw [q_sg_id (x := y 4 + cst m pl (wq m (cNo T + sc) k)) (by omega) (by omega), q_sg_id (x := 99999) (by omega) (by omega)]
        repeat' split
        all_goals omega
      rw [em] at mi
      have mr := mn_rg (a := 99999) (c := y 4 + cst m pl (wq m (cNo T + sc) k)) (by omega) (by omega)
      have Hc : RB (up (sdr dr y) 4 (mn 99999 (y 4 + cst m pl (wq m (cNo T + sc) k)))) (q_u t 7 7 (mn 99999 (y 4 + cst m pl (wq m (cNo T + sc) k)))) 7 := RB_cost Ht (fun q q0 q1 => (rows q q0 q1).2) (by omega) mr.1 mr.2
      generalize hc4 : up (sdr dr y) 4 (mn 99999 (y 4 + cst m pl (wq m (cNo T + sc) k))) = yc at Hc
      have ycp : ∀ p w, 0 ≤ p → 0 ≤ w → pg yc p w = pg (sdr dr y) p w := fun p w p0 w0 => by
        rw [← hc4]
        exact up_ne (by omega)
      have Pc : PlanC m T Lf sc (q_u t 7 7 (mn 99999 (y 4 + cst m pl (wq m (cNo T + sc) k)))) := PlanC_sm P1 (fun k z a1 a2 => by rw [q_u_n (by omega), t2 k z (by omega) (by omega)])
      obtain ⟨v, v1, v2, v3⟩ := cc_write (d := d + 1) (L := L) (xs := xs) (s := q_u t 7 7 (mn 99999 (y 4 + cst m pl (wq m (cNo T + sc) k)))) (O := O) (c := c) (q := wq m (cNo T + sc) k) Tk Pc PT pI Kc s0 s8 Hc (fun q q0 q1 => by rw [ycp q 1 q0 (by omega)]; exact rows q q0 q1) (by rw [← hc4, up_ne (by omega)]; omega) (by rw [← hc4, up_ne (by omega)]; omega) oa3 (by rw [ycp _ 2 qr.1 (by omega)]; exact wear.1) (by rw [ycp _ 2 qr.1 (by omega)]; exact wear.2.1)
      have es : wpg pl (wq m (cNo T + sc) k) yc = stp m pl (wq m (cNo T + sc) k) dr y := by
        rw [← hc4]
        rfl
      rw [es] at v2
      have pwt := cc_pageOfWrite (d := d + 5) (L := L) (xs := xs) (s := q_u t 7 7 (mn 99999 (y 4 + cst m pl (wq m (cNo T + sc) k)))) (O := O) (c := c) k0 (by rw [Pc.2.2.2.1.1]; omega) (by omega) (own_all Tk Pc PT pI s0 s8 kn Kc k0 (show k ≤ cNo T + sc by omega)).2.2.2
      obtain ⟨w, w1, w2, w3⟩ := cc_carry I hb PT pI s0 s8 kn Kc pw0 pw1 f (k + 1) (stp m pl (wq m (cNo T + sc) k) dr y) v (.int (q_I 0)) (by omega) (by omega) (PlanC_sm Pc (fun k z a1 a2 => v3 k z (by omega) (by omega) (by omega))) (LawP_sm hL1 (fun k z a1 a2 => by rw [v3 k z (by omega) (by omega) (by omega), q_u_n (by omega), t2 k z (by omega) (by omega)])) (Mid_1 Tk I K0 Kc k0 (by omega) M cr.1) v2
      refine ⟨w, ?_, w2, fun k z a1 a2 a3 => by rw [w3 k z a1 a2 a3, v3 k z (by omega) (by omega) (by omega), q_u_n (by omega), t2 k z a2 a3, d3 k z (by omega) a2 a3]⟩
      rw [← w1]
      simp (disch := first | omega | exact q_b_01 _) only [↓reduceIte, q_bk0, q_bk1, q_bk2, q_sg_b, q_b_0, q_b_n0, q_b_1, q_b_n1, q_b_T, q_b_F, q_sg_g, q_sg_sg, q_sg_xs, q_sg_id, q_gu_ne, q_gu_eq, q_g_fne, q_g_cpe, q_w_f, q_v_f, q_u_f, q_fn_f, q_cp_f, q_sg_pg, q_sg_hc, q_lt_t, q_lt_f, q_le_t, q_le_f, q_eq_t, q_eq_f, ne_eq, eq_self, Bool.false_eq_true, Bool.true_eq_false, not_true_eq_false, not_false_eq_true, true_and, and_true, false_and, and_false, true_or, or_true, false_or, or_false, if_true, if_false, Int.reduceAdd, Int.reduceMul, Int.reduceSub, Int.reduceNeg, c7, t1, mi, pwt, v1, R_97_0, R_97_7, R_97_9, R_97_21, R_97_26, R_97_30, R_97_33, R_97_41, R_97_44, R_97_48, R_97_52, R_97_58, R_97_62, R_97_63, R_97_70, R_97_80, R_97_84, R_97_88, R_97_99, R_97_101, R_97_116, R_97_120, R_97_123, R_97_137, R_97_143, R_97_156, C_97_27, C_97_38, C_97_77, C_97_81, C_97_85, C_97_96, C_97_113, C_97_117, C_97_131, C_97_134, C_97_153]
end CCR
