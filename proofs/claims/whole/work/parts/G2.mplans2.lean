/-! THE REFERENCE: a plan is made -/
noncomputable def SlP (m : Int → Int) (Lf : Int → Prop) (kN sc i : Int) (pl : Int → Int) : Prop :=
  pl (16 * tp m (kN + i)) = 3 ∧ pl (16 * tp m (kN + i) + 1) = rws (cnP (Rw m Lf (kN + sc)) 48) i 6 ∧ pl (16 * tp m (kN + i) + 3) = (if i + 1 < sc then tp m (kN + (i + 1)) else -1) ∧ ∀ k, 0 ≤ k → k < 6 → ∀ p, 0 ≤ p → p < 48 → Rw m Lf (kN + sc) p → cnP (Rw m Lf (kN + sc)) p = 6 * i + k → pl (16 * tp m (kN + i) + (4 + k)) = p ∧ pl (16 * tp m (kN + i) + (10 + k)) = frN m Lf p
noncomputable def rtp (m : Int → Int) : Option Tr → Int
  | none => -1
  | some t => pgK (tp m) t 0
noncomputable def HdP (m : Int → Int) (T : Option Tr) (sc : Int) (pl : Int → Int) : Prop :=
  pl (16 * (1 - hd m)) = 4 ∧ pl (16 * (1 - hd m) + 1) = 0 ∧ pl (16 * (1 - hd m) + 3) = -1 ∧ pl (16 * (1 - hd m) + 4) = hc m 0 + 1 ∧ pl (16 * (1 - hd m) + 5) = rtp m T ∧ pl (16 * (1 - hd m) + 6) = (if sc = 0 then -1 else tp m (cNo T)) ∧ pl (16 * (1 - hd m) + 7) = hgh m (cNo T + sc)
/-- what is to be written -/
noncomputable def PlI (m : Int → Int) (T : Option Tr) (Lf : Int → Prop) (sc : Int) (pl : Int → Int) : Prop :=
  (∀ t, T = some t → PlN (tp m) pl t 0) ∧ (∀ i, 0 ≤ i → i < sc → SlP m Lf (cNo T) sc i pl) ∧ HdP m T sc pl
noncomputable def PlanM (m : Int → Int) (T : Option Tr) (Lf : Int → Prop) (sc : Int) (u : Nat → Int → Int32) : Prop :=
  q_g u 285 39 = cNo T + sc + 1 ∧ (∀ p, 0 ≤ p → p < 48 → TK m (cNo T + sc) p → q_g u 306 (cnP (TK m (cNo T + sc)) p) = p) ∧ q_g u 306 (cNo T + sc) = 1 - hd m ∧ PlI m T Lf sc (q_g u 305)
section MP2
variable {d L : Nat} {xs : Nat → Int32} {s : Nat → Int → Int32} {O : Nat → Int64} {c : Bool × Nat × Nat} {m : Int → Int} {b n sc : Int} {Lf : Int → Prop} {T : Option Tr}
theorem mm_plansW (I : TkI m) {K : Int} (k0 : 0 ≤ K) (kc : K ≤ cap m) (h39 : q_g s 285 39 = 0) (ht : ∀ p, 0 ≤ p → p < 48 → q_g s 302 p = q_b (TK m K p)) : ∃ u, EV (d) 278 124 [.ref 285, .int (q_I (0))] [] (q_h L xs s O c) = EV (d) 278 168 [.ref 285, .int (q_I (48))] [] (q_h L xs (u) O c) ∧ q_g u 285 39 = K ∧ (∀ p, 0 ≤ p → p < 48 → TK m K p → q_g u 306 (cnP (TK m K) p) = p) ∧ ∀ k z, k ≠ 306 → ¬ (k = 285 ∧ z = 39) → u k z = s k z := by
  obtain ⟨a1, a2, a3, a4⟩ := TK_ct I k0 kc
  obtain ⟨u, u1, u2, u3, u4⟩ := q_for (fun j t => EV (d) 278 124 [.ref 285, .int (q_I (j))] [] (q_h L xs (t) O c)) (fun j t => q_g t 285 39 = cnP (TK m K) j ∧ (∀ p, 0 ≤ p → p < j → TK m K p → q_g t 306 (cnP (TK m K) p) = p) ∧ ∀ k z, k ≠ 306 → ¬ (k = 285 ∧ z = 39) → t k z = s k z) (lo := 0) (hi := 48) (by omega) (fun j t j0 j1 P => by
      obtain ⟨P1, P2, P3⟩ := P
      have e02 : q_g t 302 j = q_b (TK m K j) := by
        rw [← ht j j0 j1]
        show (t 302 j).toInt = _
        rw [P3 302 j (by omega) (by omega)]
        rfl
      have wr := cnP_rg (P := TK m K) (p := j) j0
      by_cases tk : TK m K j
      · rw [q_bt tk] at e02
        have g39 : q_g (q_u t 306 (cnP (TK m K) j) j) 285 39 = cnP (TK m K) j := by rw [q_gu_ne (by omega), P1]
        refine ⟨q_u (q_u t 306 (cnP (TK m K) j) j) 285 39 (cnP (TK m K) j + 1), ?_, ?_, fun p p0 p1 hp => ?_, fun k z a b => by rw [q_u_n (by omega), q_u_n (by omega), P3 k z a b]⟩
        · show EV (d) 278 124 [.ref 285, .int (q_I (j))] [] (q_h L xs (t) O c) = EV (d) 278 124 [.ref 285, .int (q_I (j + 1))] [] (q_h L xs (q_u (q_u t 306 (cnP (TK m K) j) j) 285 39 (cnP (TK m K) j + 1)) O c)
          rw [R_278_124 (x1 := j)]
          simp (disch := first | omega | exact q_b_01 _) only [↓reduceIte, q_bk0, q_bk1, q_bk2, q_sg_b, q_b_0, q_b_n0, q_b_1, q_b_n1, q_b_T, q_b_F, q_sg_g, q_sg_sg, q_sg_xs, q_sg_id, q_gu_ne, q_gu_eq, q_g_fne, q_g_cpe, q_w_f, q_v_f, q_u_f, q_fn_f, q_cp_f, q_sg_pg, q_sg_hc, q_lt_t, q_lt_f, q_le_t, q_le_f, q_eq_t, q_eq_f, ne_eq, eq_self, Bool.false_eq_true, Bool.true_eq_false, not_true_eq_false, not_false_eq_true, true_and, and_true, false_and, and_false, true_or, or_true, false_or, or_false, if_true, if_false, Int.reduceAdd, Int.reduceMul, Int.reduceSub, Int.reduceNeg, e02, P1, g39, R_278_0, R_278_4, R_278_9, R_278_14, R_278_24, R_278_31, R_278_40, R_278_46, R_278_53, R_278_54, R_278_58, R_278_64, R_278_69, R_278_72, R_278_80, R_278_88, R_278_93, R_278_98, R_278_105, R_278_106, R_278_114, R_278_122, R_278_130, R_278_136, R_278_139, R_278_142, R_278_152, R_278_162, R_278_168, R_278_173, R_278_185, R_278_195, R_278_207, R_278_219, R_278_231, R_278_245, R_278_248, R_278_268, R_278_269, R_278_288, R_278_292, R_278_298, R_278_299, R_278_316, C_278_1, C_278_37, C_278_55, C_278_61, C_278_66, C_278_85, C_278_90, C_278_95, C_278_119, C_278_170, C_278_242, C_278_265]
        · rw [q_gu_eq rfl, q_sg_id (by omega) (by omega), cnP_1 j0, q_bt tk]
        · rw [q_gu_ne (by omega)]
          by_cases e : p = j
          · rw [e, q_gu_eq rfl, q_sg_id (by omega) (by omega)]
          · have := cnP_lt p0 hp (show p < j by omega)
            rw [q_gu_ne (by omega)]
            exact P2 p p0 (by omega) hp
      · rw [q_bf tk] at e02
        refine ⟨t, ?_, by rw [P1, cnP_1 j0, q_bf tk]; omega, fun p p0 p1 hp => ?_, P3⟩
        · show EV (d) 278 124 [.ref 285, .int (q_I (j))] [] (q_h L xs (t) O c) = EV (d) 278 124 [.ref 285, .int (q_I (j + 1))] [] (q_h L xs (t) O c)
          rw [R_278_124 (x1 := j)]
          simp (disch := first | omega | exact q_b_01 _) only [↓reduceIte, q_bk0, q_bk1, q_bk2, q_sg_b, q_b_0, q_b_n0, q_b_1, q_b_n1, q_b_T, q_b_F, q_sg_g, q_sg_sg, q_sg_xs, q_sg_id, q_gu_ne, q_gu_eq, q_g_fne, q_g_cpe, q_w_f, q_v_f, q_u_f, q_fn_f, q_cp_f, q_sg_pg, q_sg_hc, q_lt_t, q_lt_f, q_le_t, q_le_f, q_eq_t, q_eq_f, ne_eq, eq_self, Bool.false_eq_true, Bool.true_eq_false, not_true_eq_false, not_false_eq_true, true_and, and_true, false_and, and_false, true_or, or_true, false_or, or_false, if_true, if_false, Int.reduceAdd, Int.reduceMul, Int.reduceSub, Int.reduceNeg, e02, R_278_0, R_278_4, R_278_9, R_278_14, R_278_24, R_278_31, R_278_40, R_278_46, R_278_53, R_278_54, R_278_58, R_278_64, R_278_69, R_278_72, R_278_80, R_278_88, R_278_93, R_278_98, R_278_105, R_278_106, R_278_114, R_278_122, R_278_130, R_278_136, R_278_139, R_278_142, R_278_152, R_278_162, R_278_168, R_278_173, R_278_185, R_278_195, R_278_207, R_278_219, R_278_231, R_278_245, R_278_248, R_278_268, R_278_269, R_278_288, R_278_292, R_278_298, R_278_299, R_278_316, C_278_1, C_278_37, C_278_55, C_278_61, C_278_66, C_278_85, C_278_90, C_278_95, C_278_119, C_278_170, C_278_242, C_278_265]
        · have e : p ≠ j := fun e => tk (e ▸ hp)
          exact P2 p p0 (by omega) hp) (t := s) ⟨by rw [h39, cnP_0], fun p p0 p1 => by omega, fun _ _ _ _ => rfl⟩
  rw [a1] at u2
  refine ⟨u, ?_, u2, u3, u4⟩
  refine u1.trans ?_
  show EV (d) 278 124 [.ref 285, .int (q_I (48))] [] (q_h L xs (u) O c) = _
  rw [R_278_124]
  simp (disch := first | omega | exact q_b_01 _) only [↓reduceIte, q_bk0, q_bk1, q_bk2, q_sg_b, q_b_0, q_b_n0, q_b_1, q_b_n1, q_b_T, q_b_F, q_sg_g, q_sg_sg, q_sg_xs, q_sg_id, q_gu_ne, q_gu_eq, q_g_fne, q_g_cpe, q_w_f, q_v_f, q_u_f, q_fn_f, q_cp_f, q_sg_pg, q_sg_hc, q_lt_t, q_lt_f, q_le_t, q_le_f, q_eq_t, q_eq_f, ne_eq, eq_self, Bool.false_eq_true, Bool.true_eq_false, not_true_eq_false, not_false_eq_true, true_and, and_true, false_and, and_false, true_or, or_true, false_or, or_false, if_true, if_false, Int.reduceAdd, Int.reduceMul, Int.reduceSub, Int.reduceNeg]
theorem mm_plansB (em : q_g s 286 = m) (I : Inv m b) (hb : b < 2147483646) (hL : LfI m Lf) (hl : LfM s Lf) (P : PTo T) (hT : T = none → q_g s 285 26 = -1) (hS : ∀ t, T = some t → Sub (dM s) (q_g s 285 25) t (q_g s 285 26)) (h25 : q_g s 285 25 ≤ 240) (ha : q_g s 285 29 = 1) (h36 : q_g s 285 36 = 0) (h39 : q_g s 285 39 = 0) (h02 : ∀ p, 0 ≤ p → p < 48 → q_g s 302 p = 0) (Sc : ScI m (frN m Lf) (cNo T) sc) :
    (cNo T + sc ≤ cap m → ∃ u, EV (d + 18) 278 46 [.ref 285, .int (q_I (n))] [] (q_h L xs s O c) = some (.inl none, q_h L xs (u) O c) ∧ q_g u 285 36 = 0 ∧ PlanM m T Lf sc u ∧ MpF s u) ∧ (cap m < cNo T + sc → ∃ u, EV (d + 18) 278 46 [.ref 285, .int (q_I (n))] [] (q_h L xs s O c) = some (.inl none, q_h L xs (u) O c) ∧ q_g u 285 36 = 1 ∧ q_g u 285 39 = 0 ∧ MpF s u) := by
  have Hl := inv_ls I (by omega)
  have Tk := inv_tk I (by omega)
  have Si := inv_si I (by omega)
  have h0 := I.1.2.2.2.1
  have s0 := Sc.1
  have s8 := Sc.2.1
  have hh := hd_01 m
  have cp : 0 ≤ cap m ∧ cap m ≤ 96 := by
    have := nu_ge (m := m) (p := 48) (by omega)
    have := nu_le (m := m) (p := 48) (by omega)
    unfold cap
    omega
  have k0 : 0 ≤ cNo T := by
    cases T with
    | none => exact Int.le_refl _
    | some t => exact cN_0 t
  have li := mm_lists (d := d + 15) (L := L) (xs := xs) (s := s) (O := O) (c := c) (by rw [em]; exact Hl)
  rw [em] at li
  generalize hM : q_v s 303 0 48 (FRm m) = M at li
  have Mk : ∀ k z, k ≠ 303 → M k z = s k z := fun k z hk => by
    rw [← hM]
    unfold q_v
    rw [if_neg (by omega)]
  have Mg : ∀ k z, k ≠ 303 → q_g M k z = q_g s k z := fun k z hk => by
    show (M k z).toInt = _
    rw [Mk k z hk]
    rfl
  have eM : q_g M 286 = m := by
    rw [← em]
    exact funext fun z => Mg 286 z (by omega)
  have th := mm_theHead (d := d + 16) (L := L) (xs := xs) (s := M) (O := O) (c := c)
  have o7 := mm_of (d := d + 17) (L := L) (xs := xs) (s := M) (O := O) (c := c) (p := hd m) (w := 7) (by omega) (by omega) (by omega) (by omega)
  rw [eM] at th o7
  have e7 : pg m (hd m) 7 = hc m 3 := rfl
  rw [e7] at o7
  generalize hW : q_u M 285 35 (hc m 3) = W
  have Wk : ∀ k z, k ≠ 303 → ¬ (k = 285 ∧ z = 35) → W k z = s k z := fun k z hk h2 => by rw [← hW, q_u_n (by omega), Mk k z hk]
  have Wg : ∀ k z, k ≠ 303 → ¬ (k = 285 ∧ z = 35) → q_g W k z = q_g s k z := fun k z hk h2 => by
    show (W k z).toInt = _
    rw [Wk k z hk h2]
    rfl
  have eW : q_g W 286 = m := by
    rw [← em]
    exact funext fun z => Wg 286 z (by omega) (by omega)
  have C0 : MTk m (fr0 m) 0 W := by
    try dsimp only [Lab_e1, Lab_e2, PlN_e1, PlN_e2]
    refine ⟨eW, fun p p0 p1 => ⟨?_, ?_⟩, ?_, by rw [Wg 285 36 (by omega) (by omega)]; exact h36⟩
    · rw [← hW, q_gu_ne (by omega), ← hM, q_v_g0 _ _ _ p0 p1]
      rfl
    · rw [Wg 302 p (by omega) (by omega), h02 p p0 p1, q_bf (TK_0 Tk)]
    · rw [← hW, q_gu_eq rfl, q_sg_id (by omega) (by omega), hgh_0]
  have eDW : dM W = dM s := dM_c (fun k h1 h2 => funext fun z => Wk k z (by omega) (by omega))
  have r26 := Wg 285 26 (by omega) (by omega)
  have r25 := Wg 285 25 (by omega) (by omega)
  have hlW : LfM W Lf := LfM_sm hl (fun z _ => Wk 301 z (by omega) (by omega))
  -- up to the slips
  have nodes : (cNo T ≤ cap m → ∃ u, EV (d + 18) 278 46 [.ref 285, .int (q_I (n))] [] (q_h L xs s O c) = EV (d + 18) 278 88 [.ref 285, .int (q_I (n))] [] (q_h L xs (u) O c) ∧ MTk m (fr0 m) (cNo T) u ∧ (∀ t, T = some t → Lab (dM s) (tp m) (pfM u) t 0 (q_g s 285 26)) ∧ Gq W u) ∧ (cap m < cNo T → ∃ u, EV (d + 18) 278 46 [.ref 285, .int (q_I (n))] [] (q_h L xs s O c) = EV (d + 18) 278 88 [.ref 285, .int (q_I (n))] [] (q_h L xs (u) O c) ∧ q_g u 285 36 = 1 ∧ Gq W u) := by
    cases T with
    | none =>
      have hr := hT rfl
      have hrW : q_g W 285 26 = -1 := by rw [r26, hr]
      try dsimp only [Lab_e1, Lab_e2, PlN_e1, PlN_e2]
      refine ⟨fun _ => ⟨W, ?_, C0, fun t h => absurd h (by simp), fun _ _ _ _ _ => rfl⟩, fun h => by have e : cNo none = 0 := rfl; omega⟩
      simp (disch := first | omega | exact q_b_01 _) only [↓reduceIte, q_bk0, q_bk1, q_bk2, q_sg_b, q_b_0, q_b_n0, q_b_1, q_b_n1, q_b_T, q_b_F, q_sg_g, q_sg_sg, q_sg_xs, q_sg_id, q_gu_ne, q_gu_eq, q_g_fne, q_g_cpe, q_w_f, q_v_f, q_u_f, q_fn_f, q_cp_f, q_sg_pg, q_sg_hc, q_lt_t, q_lt_f, q_le_t, q_le_f, q_eq_t, q_eq_f, ne_eq, eq_self, Bool.false_eq_true, Bool.true_eq_false, not_true_eq_false, not_false_eq_true, true_and, and_true, false_and, and_false, true_or, or_true, false_or, or_false, if_true, if_false, Int.reduceAdd, Int.reduceMul, Int.reduceSub, Int.reduceNeg, ha, li, th, o7, hW, hrW, R_278_0, R_278_4, R_278_9, R_278_14, R_278_24, R_278_31, R_278_40, R_278_46, R_278_53, R_278_54, R_278_58, R_278_64, R_278_69, R_278_72, R_278_80, R_278_93, R_278_98, R_278_105, R_278_106, R_278_114, R_278_122, R_278_124, R_278_130, R_278_136, R_278_139, R_278_142, R_278_152, R_278_162, R_278_168, R_278_173, R_278_185, R_278_195, R_278_207, R_278_219, R_278_231, R_278_245, R_278_248, R_278_268, R_278_269, R_278_288, R_278_292, R_278_298, R_278_299, R_278_316, C_278_1, C_278_37, C_278_55, C_278_61, C_278_66, C_278_85, C_278_90, C_278_95, C_278_119, C_278_170, C_278_242, C_278_265]
    | some t =>
      obtain ⟨h, h12, o, hz⟩ := P
      have Ss := hS t rfl
      have xr := Ss.2.2 _ (Wi_self _ _ _)
      obtain ⟨p1, p2⟩ := mm_place (d := d + 12 - h) (L := L) (xs := xs) (O := O) (c := c) Tk FuI_0 (q_g s 285 26) 0 W o (by rw [eDW]; exact Ss) h25 C0 (by omega) (by omega)
      have ed : d + 12 - h + h + 5 = d + 17 := by omega
      rw [ed] at p1 p2
      rw [Int.zero_add, eDW] at p1
      rw [Int.zero_add] at p2
      have e : cNo (some t) = cN t := rfl
      rw [e]
      have rne : ¬ q_g W 285 26 = -1 := by omega
      try dsimp only [Lab_e1, Lab_e2, PlN_e1, PlN_e2]
      refine ⟨fun hk => ?_, fun hk => ?_⟩
      · obtain ⟨u, u1, u2, u3, u5, u7⟩ := p1 hk
        try dsimp only [Lab_e1, Lab_e2, PlN_e1, PlN_e2]
        refine ⟨u, ?_, u2, fun t' ht => ?_, u7⟩
        · simp (disch := first | omega | exact q_b_01 _) only [↓reduceIte, q_bk0, q_bk1, q_bk2, q_sg_b, q_b_0, q_b_n0, q_b_1, q_b_n1, q_b_T, q_b_F, q_sg_g, q_sg_sg, q_sg_xs, q_sg_id, q_gu_ne, q_gu_eq, q_g_fne, q_g_cpe, q_w_f, q_v_f, q_u_f, q_fn_f, q_cp_f, q_sg_pg, q_sg_hc, q_lt_t, q_lt_f, q_le_t, q_le_f, q_eq_t, q_eq_f, ne_eq, eq_self, Bool.false_eq_true, Bool.true_eq_false, not_true_eq_false, not_false_eq_true, true_and, and_true, false_and, and_false, true_or, or_true, false_or, or_false, if_true, if_false, Int.reduceAdd, Int.reduceMul, Int.reduceSub, Int.reduceNeg, ha, li, th, o7, hW, r26, u1, R_278_0, R_278_4, R_278_9, R_278_14, R_278_24, R_278_31, R_278_40, R_278_46, R_278_53, R_278_54, R_278_58, R_278_64, R_278_69, R_278_72, R_278_80, R_278_93, R_278_98, R_278_105, R_278_106, R_278_114, R_278_122, R_278_124, R_278_130, R_278_136, R_278_139, R_278_142, R_278_152, R_278_162, R_278_168, R_278_173, R_278_185, R_278_195, R_278_207, R_278_219, R_278_231, R_278_245, R_278_248, R_278_268, R_278_269, R_278_288, R_278_292, R_278_298, R_278_299, R_278_316, C_278_1, C_278_37, C_278_55, C_278_61, C_278_66, C_278_85, C_278_90, C_278_95, C_278_119, C_278_170, C_278_242, C_278_265]
        · have := Option.some.inj ht
          subst this
          exact u3
      · obtain ⟨u, u1, u2, u7⟩ := p2 hk
        try dsimp only [Lab_e1, Lab_e2, PlN_e1, PlN_e2]
        refine ⟨u, ?_, u2, u7⟩
        simp (disch := first | omega | exact q_b_01 _) only [↓reduceIte, q_bk0, q_bk1, q_bk2, q_sg_b, q_b_0, q_b_n0, q_b_1, q_b_n1, q_b_T, q_b_F, q_sg_g, q_sg_sg, q_sg_xs, q_sg_id, q_gu_ne, q_gu_eq, q_g_fne, q_g_cpe, q_w_f, q_v_f, q_u_f, q_fn_f, q_cp_f, q_sg_pg, q_sg_hc, q_lt_t, q_lt_f, q_le_t, q_le_f, q_eq_t, q_eq_f, ne_eq, eq_self, Bool.false_eq_true, Bool.true_eq_false, not_true_eq_false, not_false_eq_true, true_and, and_true, false_and, and_false, true_or, or_true, false_or, or_false, if_true, if_false, Int.reduceAdd, Int.reduceMul, Int.reduceSub, Int.reduceNeg, ha, li, th, o7, hW, r26, u1, R_278_0, R_278_4, R_278_9, R_278_14, R_278_24, R_278_31, R_278_40, R_278_46, R_278_53, R_278_54, R_278_58, R_278_64, R_278_69, R_278_72, R_278_80, R_278_93, R_278_98, R_278_105, R_278_106, R_278_114, R_278_122, R_278_124, R_278_130, R_278_136, R_278_139, R_278_142, R_278_152, R_278_162, R_278_168, R_278_173, R_278_185, R_278_195, R_278_207, R_278_219, R_278_231, R_278_245, R_278_248, R_278_268, R_278_269, R_278_288, R_278_292, R_278_298, R_278_299, R_278_316, C_278_1, C_278_37, C_278_55, C_278_61, C_278_66, C_278_85, C_278_90, C_278_95, C_278_119, C_278_170, C_278_242, C_278_265]
  obtain ⟨n1, n2⟩ := nodes
  by_cases kc : cNo T ≤ cap m
  · obtain ⟨u, u1, u2, u3, u5⟩ := n1 kc
    have eu : q_g u 286 = m := u2.1
    have ve := mm_version (d := d + 15) (L := L) (xs := xs) (s := u) (O := O) (c := c)
    rw [eu] at ve
    have hlu : LfM u Lf := LfM_sm hlW (fun z _ => u5 301 z (by omega) (by omega) (by omega))
    obtain ⟨p1, p2⟩ := mm_plansSlips (d := d + 12) (L := L) (xs := xs) (s := u) (O := O) (c := c) (Lf := Lf) (kN := cNo T) (sc := sc) Tk hL Si Hl (by omega) (by omega) u2 k0 kc hlu Sc
    try dsimp only [Lab_e1, Lab_e2, PlN_e1, PlN_e2]
    refine ⟨fun hk => ?_, fun hk => ?_⟩
    · obtain ⟨w, w1, w2, w3, w4, w5, w6, w7⟩ := p1 hk
      have w36 := w2.2.2.2
      have fw : ∀ k z, ¬ (k = 285 ∧ (z = 34 ∨ z = 35 ∨ z = 36)) → ¬ (301 ≤ k ∧ k ≤ 305) → k ≠ 298 → w k z = s k z := fun k z a1 a2 a3 => by rw [w7 k z a1 a2, u5 k z (by omega) (by omega) a3, Wk k z (by omega) (by omega)]
      have gw : ∀ k z, ¬ (k = 285 ∧ (z = 34 ∨ z = 35 ∨ z = 36)) → ¬ (301 ≤ k ∧ k ≤ 305) → k ≠ 298 → q_g w k z = q_g s k z := fun k z a1 a2 a3 => by
        show (w k z).toInt = _
        rw [fw k z a1 a2 a3]
        rfl
      have eDw : dM w = dM s := dM_c (fun k h1 h2 => funext fun z => fw k z (by omega) (by omega) (by omega))
      have pfw : pfM w = pfM u := by
        funext x
        unfold pfM
        split
        · rfl
        · show (w 298 x).toInt = _
          rw [w7 298 x (by omega) (by omega)]
          rfl
      have w26 := gw 285 26 (by omega) (by omega) (by omega)
      -- the nodes as they will be written
      have wn : ∃ y, EV (d + 18) 278 106 [.ref 285, .int (q_I (n))] [] (q_h L xs (w) O c) = EV (d + 18) 278 122 [.ref 285, .int (q_I (n))] [] (q_h L xs (y) O c) ∧ (∀ t, T = some t → PlN (tp m) (q_g y 305) t 0) ∧ Fw m 0 (cNo T) w y := by
        cases T with
        | none =>
          have hr : q_g w 285 26 = -1 := by rw [w26]; exact hT rfl
          try dsimp only [Lab_e1, Lab_e2, PlN_e1, PlN_e2]
          refine ⟨w, ?_, fun t h => absurd h (by simp), fun _ _ => rfl, fun _ _ _ => rfl⟩
          simp (disch := first | omega | exact q_b_01 _) only [↓reduceIte, q_bk0, q_bk1, q_bk2, q_sg_b, q_b_0, q_b_n0, q_b_1, q_b_n1, q_b_T, q_b_F, q_sg_g, q_sg_sg, q_sg_xs, q_sg_id, q_gu_ne, q_gu_eq, q_g_fne, q_g_cpe, q_w_f, q_v_f, q_u_f, q_fn_f, q_cp_f, q_sg_pg, q_sg_hc, q_lt_t, q_lt_f, q_le_t, q_le_f, q_eq_t, q_eq_f, ne_eq, eq_self, Bool.false_eq_true, Bool.true_eq_false, not_true_eq_false, not_false_eq_true, true_and, and_true, false_and, and_false, true_or, or_true, false_or, or_false, if_true, if_false, Int.reduceAdd, Int.reduceMul, Int.reduceSub, Int.reduceNeg, hr, R_278_106]
        | some t =>
          obtain ⟨h, h12, o, hz⟩ := P
          have Ss := hS t rfl
          have xr := Ss.2.2 _ (Wi_self _ _ _)
          have e : cNo (some t) = cN t := rfl
          obtain ⟨y, y1, y2, y3⟩ := mm_writesN (d := d + 15 - h) (L := L) (xs := xs) (O := O) (c := c) Tk (q_g s 285 26) 0 w o (by rw [eDw]; exact Ss) h25 (by rw [eDw, pfw]; exact u3 t rfl) (by omega) (by omega)
          have ed : d + 15 - h + h + 2 = d + 17 := by omega
          rw [ed] at y1
          rw [Int.zero_add] at y3
          try dsimp only [Lab_e1, Lab_e2, PlN_e1, PlN_e2]
          refine ⟨y, ?_, fun t' ht => ?_, y3⟩
          · simp (disch := first | omega | exact q_b_01 _) only [↓reduceIte, q_bk0, q_bk1, q_bk2, q_sg_b, q_b_0, q_b_n0, q_b_1, q_b_n1, q_b_T, q_b_F, q_sg_g, q_sg_sg, q_sg_xs, q_sg_id, q_gu_ne, q_gu_eq, q_g_fne, q_g_cpe, q_w_f, q_v_f, q_u_f, q_fn_f, q_cp_f, q_sg_pg, q_sg_hc, q_lt_t, q_lt_f, q_le_t, q_le_f, q_eq_t, q_eq_f, ne_eq, eq_self, Bool.false_eq_true, Bool.true_eq_false, not_true_eq_false, not_false_eq_true, true_and, and_true, false_and, and_false, true_or, or_true, false_or, or_false, if_true, if_false, Int.reduceAdd, Int.reduceMul, Int.reduceSub, Int.reduceNeg, w26, y1, R_278_106, R_278_114, C_278_119]
          · have := Option.some.inj ht
            subst this
            exact y2
      obtain ⟨y, y1, y2, y3, y4⟩ := wn
      have gy : ∀ k z, k ≠ 305 → q_g y k z = q_g w k z := fun k z hk => by
        show (y k z).toInt = _
        rw [y4 k z hk]
        rfl
      obtain ⟨v, v1, v2, v3, v4⟩ := mm_plansW (d := d + 18) (L := L) (xs := xs) (s := y) (O := O) (c := c) (K := cNo T + sc) Tk (by omega) hk (by rw [gy 285 39 (by omega), gw 285 39 (by omega) (by omega) (by omega)]; exact h39) (fun p p0 p1 => by rw [gy 302 p (by omega)]; exact (w2.2.1 p p0 p1).2)
      have gv : ∀ k z, k ≠ 306 → ¬ (k = 285 ∧ z = 39) → q_g v k z = q_g y k z := fun k z a1 a2 => by
        show (v k z).toInt = _
        rw [v4 k z a1 a2]
        rfl
      have ev : q_g v 286 = m := by
        rw [← w2.1]
        exact funext fun z => by rw [gv 286 z (by omega) (by omega), gy 286 z (by omega)]
      obtain ⟨a1, a2, a3, a4⟩ := TK_ct Tk (show 0 ≤ cNo T + sc by omega) hk
      -- the head
      generalize hto : 1 - hd m = to
      have tor : 0 ≤ to ∧ to ≤ 1 := by omega
      generalize hA : q_u (q_u (q_u (q_u (q_u v 306 (cNo T + sc) to) 285 39 (cNo T + sc + 1)) 305 (16 * to + 0) 4) 305 (16 * to + 1) 0) 305 (16 * to + 3) (-1) = A
      have gA : ∀ k z, k ≠ 306 → ¬ (k = 285 ∧ z = 39) → ¬ (k = 305 ∧ 16 * to ≤ z ∧ z < 16 * to + 16) → q_g A k z = q_g v k z := fun k z b1 b2 b3 => by rw [← hA, q_gu_ne (by omega), q_gu_ne (by omega), q_gu_ne (by omega), q_gu_ne (by omega), q_gu_ne (by omega)]
      have eA : q_g A 286 = m := by
        rw [← ev]
        exact funext fun z => gA 286 z (by omega) (by omega) (by omega)
      have veA := mm_version (d := d + 15) (L := L) (xs := xs) (s := A) (O := O) (c := c)
      rw [eA] at veA
      generalize hB : q_u A 305 (16 * to + 4) (hc m 0 + 1) = B
      have A26 : q_g B 285 26 = q_g s 285 26 := by rw [← hB, q_gu_ne (by omega), gA 285 26 (by omega) (by omega) (by omega), gv 285 26 (by omega) (by omega), gy 285 26 (by omega), w26]
      have rtr : rtp m T = rtp m T ∧ -1 ≤ rtp m T ∧ rtp m T < 48 ∧ EV (d + 17) 274 0 [.ref 285, .int (q_I (q_g s 285 26))] [] (q_h L xs (B) O c) = some (.inl (some (.int (q_I (rtp m T)))), q_h L xs (B) O c) := by
        try dsimp only [Lab_e1, Lab_e2, PlN_e1, PlN_e2]
        refine ⟨rfl, ?_⟩
        cases T with
        | none =>
          have hr := hT rfl
          try dsimp only [Lab_e1, Lab_e2, PlN_e1, PlN_e2]
          refine ⟨by show (-1 : Int) ≤ -1; omega, by show (-1 : Int) < 48; omega, ?_⟩
          have er : rtp m none = -1 := rfl
          rw [er]
          simp (disch := first | omega | exact q_b_01 _) only [↓reduceIte, q_bk0, q_bk1, q_bk2, q_sg_b, q_b_0, q_b_n0, q_b_1, q_b_n1, q_b_T, q_b_F, q_sg_g, q_sg_sg, q_sg_xs, q_sg_id, q_gu_ne, q_gu_eq, q_g_fne, q_g_cpe, q_w_f, q_v_f, q_u_f, q_fn_f, q_cp_f, q_sg_pg, q_sg_hc, q_lt_t, q_lt_f, q_le_t, q_le_f, q_eq_t, q_eq_f, ne_eq, eq_self, Bool.false_eq_true, Bool.true_eq_false, not_true_eq_false, not_false_eq_true, true_and, and_true, false_and, and_false, true_or, or_true, false_or, or_false, if_true, if_false, Int.reduceAdd, Int.reduceMul, Int.reduceSub, Int.reduceNeg, hr, R_274_0, R_274_5, R_274_9, R_274_12, R_274_16, R_274_22, C_274_6]
        | some t =>
          have Ss := hS t rfl
          have xr := Ss.2.2 _ (Wi_self _ _ _)
          have pB : pfM B (q_g s 285 26) = rtp m (some t) := by
            show _ = pgK (tp m) t 0
            rw [← Lab_pg (u3 t rfl), ← pfw]
            unfold pfM
            rw [← hB, q_gu_ne (by omega), gA 298 _ (by omega) (by omega) (by omega), gv 298 _ (by omega) (by omega), gy 298 _ (by omega)]
          have hw := mm_where (d := d + 16) (L := L) (xs := xs) (s := B) (O := O) (c := c) (y := q_g s 285 26) xr.1 (by omega)
          rw [pB] at hw
          have e : cNo (some t) = cN t := rfl
          have rr : -1 ≤ rtp m (some t) ∧ rtp m (some t) < 48 := by
            show -1 ≤ pgK (tp m) t 0 ∧ pgK (tp m) t 0 < 48
            unfold pgK
            have pp := Rep_pg Ss.1
            split
            · rename_i hp
              have c1 : 0 < cN t := by
                cases t using Tr_cs with
                | lf p n a b =>
                  try dsimp only [Lab_e1, Lab_e2, PlN_e1, PlN_e2] at *
                  have hp : p = -1 := hp
                  show 0 < (if p = -1 then (1 : Int) else 0)
                  rw [if_pos hp]
                  omega
                | br p n a cc =>
                  try dsimp only [Lab_e1, Lab_e2, PlN_e1, PlN_e2] at *
                  have hp : p = -1 := hp
                  show 0 < (if p = -1 then 1 + smz (fun k => cN (cc k)) n.toNat else 0)
                  rw [if_pos hp]
                  have := smz_0 (f := fun k => cN (cc k)) (n := n.toNat) (fun k _ _ => cN_0 (cc k))
                  omega
              have := tp_rg Tk (i := 0) (by omega) (by omega)
              omega
            · rename_i hp
              rcases pp with ⟨f, e⟩ | ⟨f, e⟩
              · have f : (if q_g s 285 26 < 48 then (0 : Int) else 1) = 0 := f
                split at f <;> omega
              · exact absurd e hp
          exact ⟨rr.1, rr.2, hw⟩
      obtain ⟨-, rt0, rt1, hwh⟩ := rtr
      have hg := hgh_rg Tk (show 0 ≤ cNo T + sc by omega) hk
      generalize hC : q_u B 305 (16 * to + 4 + 1) (rtp m T) = C
      have gC : ∀ k z, k ≠ 306 → ¬ (k = 285 ∧ z = 39) → ¬ (k = 305 ∧ 16 * to ≤ z ∧ z < 16 * to + 16) → q_g C k z = q_g v k z := fun k z b1 b2 b3 => by rw [← hC, q_gu_ne (by omega), ← hB, q_gu_ne (by omega), gA k z b1 b2 b3]
      have C34 : q_g C 285 34 = sc := by rw [gC 285 34 (by omega) (by omega) (by omega), gv 285 34 (by omega) (by omega), gy 285 34 (by omega), w3]
      have C04 : sc ≠ 0 → q_g C 304 0 = tp m (cNo T) := fun h => by
        have := w4 0 (by omega) (by omega)
        rw [Int.add_zero] at this
        rw [gC 304 0 (by omega) (by omega) (by omega), gv 304 0 (by omega) (by omega), gy 304 0 (by omega), this]
      generalize hls : (if sc = 0 then -1 else tp m (cNo T)) = ls
      have lsr : -1 ≤ ls ∧ ls < 48 := by
        rw [← hls]
        split
        · omega
        · have := tp_rg Tk (i := cNo T) (by omega) (by omega)
          omega
      generalize hE : q_u C 305 (16 * to + 4 + 2) ls = E
      have gE : ∀ k z, k ≠ 306 → ¬ (k = 285 ∧ z = 39) → ¬ (k = 305 ∧ 16 * to ≤ z ∧ z < 16 * to + 16) → q_g E k z = q_g v k z := fun k z b1 b2 b3 => by rw [← hE, q_gu_ne (by omega), gC k z b1 b2 b3]
      have E35 : q_g E 285 35 = hgh m (cNo T + sc) := by rw [gE 285 35 (by omega) (by omega) (by omega), gv 285 35 (by omega) (by omega), gy 285 35 (by omega)]; exact w2.2.2.1
      have thv := mm_theHead (d := d + 16) (L := L) (xs := xs) (s := v) (O := O) (c := c)
      rw [ev] at thv
      have g39a : q_g (q_u v 306 (cNo T + sc) to) 285 39 = cNo T + sc := by rw [q_gu_ne (by omega), v2]
      generalize hG : q_u E 305 (16 * to + 4 + 3) (hgh m (cNo T + sc)) = G
      have gG : ∀ k z, k ≠ 306 → ¬ (k = 285 ∧ z = 39) → ¬ (k = 305 ∧ 16 * to ≤ z ∧ z < 16 * to + 16) → q_g G k z = q_g v k z := fun k z b1 b2 b3 => by rw [← hG, q_gu_ne (by omega), gE k z b1 b2 b3]
      have G306 : ∀ z, q_g G 306 z = if z = cNo T + sc then to else q_g v 306 z := fun z => by
        rw [← hG, q_gu_ne (by omega), ← hE, q_gu_ne (by omega), ← hC, q_gu_ne (by omega), ← hB, q_gu_ne (by omega), ← hA, q_gu_ne (by omega), q_gu_ne (by omega), q_gu_ne (by omega), q_gu_ne (by omega)]
        by_cases e : z = cNo T + sc
        · rw [if_pos e, q_gu_eq e, q_sg_id (by omega) (by omega)]
        · rw [if_neg e, q_gu_ne (by omega)]
      have pl : ∀ i, 0 ≤ i → i < cNo T + sc → ∀ e, 0 ≤ e → e < 16 → q_g G 305 (16 * tp m i + e) = q_g y 305 (16 * tp m i + e) := fun i i0 i1 e e0 e1 => by
        have := tp_rg Tk i0 (show i < cap m by omega)
        rw [gG 305 _ (by omega) (by omega) (by omega), gv 305 _ (by omega) (by omega)]
      have ps : ∀ j, 0 ≤ j → j < sc → ∀ e, 0 ≤ e → e < 16 → q_g G 305 (16 * tp m (cNo T + j) + e) = q_g w 305 (16 * tp m (cNo T + j) + e) := fun j j0 j1 e e0 e1 => by
        rw [pl (cNo T + j) (by omega) (by omega) e e0 e1]
        show (y 305 _).toInt = _
        rw [y3 _ (fun i i0 i1 hz => by
          have ne : tp m (cNo T + j) ≠ tp m i := fun q => by
            have := tp_inj' Tk (by omega) (by omega) (by omega) (by omega) q
            omega
          omega)]
        rfl
      try dsimp only [Lab_e1, Lab_e2, PlN_e1, PlN_e2]
      refine ⟨G, ?_, ?_, ⟨?_, fun p p0 p1 hp => ?_, ?_, fun t ht => ?_, fun i i0 i1 => ?_, ⟨?_, ?_, ?_, ?_, ?_, ?_, ?_⟩⟩, fun k z b1 b2 => ?_⟩
      · rw [u1]
        simp (disch := first | omega | exact q_b_01 _) only [↓reduceIte, q_bk0, q_bk1, q_bk2, q_sg_b, q_b_0, q_b_n0, q_b_1, q_b_n1, q_b_T, q_b_F, q_sg_g, q_sg_sg, q_sg_xs, q_sg_id, q_gu_ne, q_gu_eq, q_g_fne, q_g_cpe, q_w_f, q_v_f, q_u_f, q_fn_f, q_cp_f, q_sg_pg, q_sg_hc, q_lt_t, q_lt_f, q_le_t, q_le_f, q_eq_t, q_eq_f, ne_eq, eq_self, Bool.false_eq_true, Bool.true_eq_false, not_true_eq_false, not_false_eq_true, true_and, and_true, false_and, and_false, true_or, or_true, false_or, or_false, if_true, if_false, Int.reduceAdd, Int.reduceMul, Int.reduceSub, Int.reduceNeg, ve, w1, w36, R_278_88, C_278_90, R_278_93, C_278_95, R_278_98]
        rw [y1, R_278_122, v1]
        simp (disch := first | omega | exact q_b_01 _) only [↓reduceIte, q_bk0, q_bk1, q_bk2, q_sg_b, q_b_0, q_b_n0, q_b_1, q_b_n1, q_b_T, q_b_F, q_sg_g, q_sg_sg, q_sg_xs, q_sg_id, q_gu_ne, q_gu_eq, q_g_fne, q_g_cpe, q_w_f, q_v_f, q_u_f, q_fn_f, q_cp_f, q_sg_pg, q_sg_hc, q_lt_t, q_lt_f, q_le_t, q_le_f, q_eq_t, q_eq_f, ne_eq, eq_self, Bool.false_eq_true, Bool.true_eq_false, not_true_eq_false, not_false_eq_true, true_and, and_true, false_and, and_false, true_or, or_true, false_or, or_false, if_true, if_false, Int.reduceAdd, Int.reduceMul, Int.reduceSub, Int.reduceNeg, thv, v2, hto, g39a, hA, veA, hB, A26, hwh, hC, R_278_168, C_278_170, R_278_173, R_278_185, R_278_195, R_278_207, R_278_219, R_278_231, C_278_242, R_278_245, R_278_248, C_278_265, R_278_268, R_278_269]
        by_cases es : sc = 0
        · rw [if_pos es] at hls
          have C0' : q_g C 285 34 = 0 := by rw [C34, es]
          simp (disch := first | omega | exact q_b_01 _) only [↓reduceIte, q_bk0, q_bk1, q_bk2, q_sg_b, q_b_0, q_b_n0, q_b_1, q_b_n1, q_b_T, q_b_F, q_sg_g, q_sg_sg, q_sg_xs, q_sg_id, q_gu_ne, q_gu_eq, q_g_fne, q_g_cpe, q_w_f, q_v_f, q_u_f, q_fn_f, q_cp_f, q_sg_pg, q_sg_hc, q_lt_t, q_lt_f, q_le_t, q_le_f, q_eq_t, q_eq_f, ne_eq, eq_self, Bool.false_eq_true, Bool.true_eq_false, not_true_eq_false, not_false_eq_true, true_and, and_true, false_and, and_false, true_or, or_true, false_or, or_false, if_true, if_false, Int.reduceAdd, Int.reduceMul, Int.reduceSub, Int.reduceNeg, C0', hls, hE, E35, hG, R_278_288, R_278_298, R_278_299, R_278_316]
        · rw [if_neg es] at hls
          have C1' : ¬ q_g C 285 34 = 0 := by rw [C34]; exact es
          simp (disch := first | omega | exact q_b_01 _) only [↓reduceIte, q_bk0, q_bk1, q_bk2, q_sg_b, q_b_0, q_b_n0, q_b_1, q_b_n1, q_b_T, q_b_F, q_sg_g, q_sg_sg, q_sg_xs, q_sg_id, q_gu_ne, q_gu_eq, q_g_fne, q_g_cpe, q_w_f, q_v_f, q_u_f, q_fn_f, q_cp_f, q_sg_pg, q_sg_hc, q_lt_t, q_lt_f, q_le_t, q_le_f, q_eq_t, q_eq_f, ne_eq, eq_self, Bool.false_eq_true, Bool.true_eq_false, not_true_eq_false, not_false_eq_true, true_and, and_true, false_and, and_false, true_or, or_true, false_or, or_false, if_true, if_false, Int.reduceAdd, Int.reduceMul, Int.reduceSub, Int.reduceNeg, C1', C04 es, hls, hE, E35, hG, R_278_292, R_278_298, R_278_299, R_278_316]
      · rw [gG 285 36 (by omega) (by omega) (by omega), gv 285 36 (by omega) (by omega), gy 285 36 (by omega)]
        exact w36
      · rw [← hG, q_gu_ne (by omega), ← hE, q_gu_ne (by omega), ← hC, q_gu_ne (by omega), ← hB, q_gu_ne (by omega), ← hA, q_gu_ne (by omega), q_gu_ne (by omega), q_gu_ne (by omega), q_gu_eq rfl, q_sg_id (by omega) (by omega)]
      · have := cnP_lt p0 hp p1
        rw [G306, if_neg (by omega)]
        exact v3 p p0 p1 hp
      · rw [G306, if_pos rfl, hto]
      · have : T ≠ none := by rw [ht]; simp
        obtain ⟨h, h12, o, hz⟩ : PTt t := by rw [ht] at P; exact P
        refine PlN_fr o (y2 t ht) (fun i i0 i1 e e0 e1 => pl i i0 ?_ e e0 e1)
        have e : cNo T = cN t := by rw [ht]; rfl
        omega
      · obtain ⟨f1, f2, f3, f4⟩ := w5 i i0 i1
        have z0 := ps i i0 i1 0 (by omega) (by omega)
        rw [Int.add_zero] at z0
        try dsimp only [Lab_e1, Lab_e2, PlN_e1, PlN_e2]
        refine ⟨z0.trans f1, (ps i i0 i1 1 (by omega) (by omega)).trans f2, (ps i i0 i1 3 (by omega) (by omega)).trans f3, fun k k0 k1 p p0 p1 hp hc => ?_⟩
        obtain ⟨q1, q2⟩ := f4 k k0 k1 p p0 p1 hp hc
        exact ⟨(ps i i0 i1 (4 + k) (by omega) (by omega)).trans q1, (ps i i0 i1 (10 + k) (by omega) (by omega)).trans q2⟩
      · rw [hto, ← hG, q_gu_ne (by omega), ← hE, q_gu_ne (by omega), ← hC, q_gu_ne (by omega), ← hB, q_gu_ne (by omega), ← hA, q_gu_ne (by omega), q_gu_ne (by omega), q_gu_eq (by omega)]
        rfl
      · rw [hto, ← hG, q_gu_ne (by omega), ← hE, q_gu_ne (by omega), ← hC, q_gu_ne (by omega), ← hB, q_gu_ne (by omega), ← hA, q_gu_ne (by omega), q_gu_eq (by omega)]
        rfl
      · rw [hto, ← hG, q_gu_ne (by omega), ← hE, q_gu_ne (by omega), ← hC, q_gu_ne (by omega), ← hB, q_gu_ne (by omega), ← hA, q_gu_eq (by omega)]
        rfl
      · rw [hto, ← hG, q_gu_ne (by omega), ← hE, q_gu_ne (by omega), ← hC, q_gu_ne (by omega), ← hB, q_gu_eq (by omega), q_sg_id (by omega) (by omega)]
      · rw [hto, ← hG, q_gu_ne (by omega), ← hE, q_gu_ne (by omega), ← hC, q_gu_eq (by omega), q_sg_id (by omega) (by omega)]
      · rw [hto, hls, ← hG, q_gu_ne (by omega), ← hE, q_gu_eq (by omega), q_sg_id (by omega) (by omega)]
      · rw [hto, ← hG, q_gu_eq (by omega), q_sg_id (by omega) (by omega)]
      · have e1 : G k z = v k z := by rw [← hG, q_u_n (by omega), ← hE, q_u_n (by omega), ← hC, q_u_n (by omega), ← hB, q_u_n (by omega), ← hA, q_u_n (by omega), q_u_n (by omega), q_u_n (by omega), q_u_n (by omega), q_u_n (by omega)]
        rw [e1, v4 k z (by omega) (by omega), y4 k z (by omega), fw k z (by omega) (by omega) (by omega)]
    · obtain ⟨w, w1, w2, w3⟩ := p2 hk
      have fw : ∀ k z, ¬ (k = 285 ∧ (z = 34 ∨ z = 35 ∨ z = 36)) → ¬ (301 ≤ k ∧ k ≤ 305) → k ≠ 298 → w k z = s k z := fun k z a1 a2 a3 => by rw [w3 k z a1 a2, u5 k z (by omega) (by omega) a3, Wk k z (by omega) (by omega)]
      try dsimp only [Lab_e1, Lab_e2, PlN_e1, PlN_e2]
      refine ⟨w, ?_, w2, ?_, fun k z a1 a2 => fw k z (by omega) (by omega) (by omega)⟩
      · rw [u1]
        simp (disch := first | omega | exact q_b_01 _) only [↓reduceIte, q_bk0, q_bk1, q_bk2, q_sg_b, q_b_0, q_b_n0, q_b_1, q_b_n1, q_b_T, q_b_F, q_sg_g, q_sg_sg, q_sg_xs, q_sg_id, q_gu_ne, q_gu_eq, q_g_fne, q_g_cpe, q_w_f, q_v_f, q_u_f, q_fn_f, q_cp_f, q_sg_pg, q_sg_hc, q_lt_t, q_lt_f, q_le_t, q_le_f, q_eq_t, q_eq_f, ne_eq, eq_self, Bool.false_eq_true, Bool.true_eq_false, not_true_eq_false, not_false_eq_true, true_and, and_true, false_and, and_false, true_or, or_true, false_or, or_false, if_true, if_false, Int.reduceAdd, Int.reduceMul, Int.reduceSub, Int.reduceNeg, ve, w1, w2, R_278_88, C_278_90, R_278_93, C_278_95, R_278_98, R_278_105]
      · show (w 285 39).toInt = 0
        rw [fw 285 39 (by omega) (by omega) (by omega)]
        exact h39
  · obtain ⟨u, u1, u2, u3⟩ := n2 (by omega)
    have eu : q_g u 286 = m := by
      rw [← eW]
      exact funext fun z => by
        show (u 286 z).toInt = _
        rw [u3 286 z (by omega) (by omega) (by omega)]
        rfl
    have ve := mm_version (d := d + 15) (L := L) (xs := xs) (s := u) (O := O) (c := c)
    rw [eu] at ve
    obtain ⟨w, w1, w2, w3⟩ := mm_slipsF (d := d + 15) (L := L) (xs := xs) (s := u) (O := O) (c := c) (Lf := Lf) (n1 := hc m 0 + 1) eu Hl (LfM_sm hlW (fun z _ => u3 301 z (by omega) (by omega) (by omega))) u2
    have fw : ∀ k z, ¬ (k = 285 ∧ (z = 34 ∨ z = 35 ∨ z = 36)) → ¬ (301 ≤ k ∧ k ≤ 305) → k ≠ 298 → w k z = s k z := fun k z a1 a2 a3 => by rw [w3 k z a1 a2, u3 k z (by omega) (by omega) a3, Wk k z (by omega) (by omega)]
    try dsimp only [Lab_e1, Lab_e2, PlN_e1, PlN_e2]
    refine ⟨fun hk => by omega, fun hk => ⟨w, ?_, w2, ?_, fun k z a1 a2 => fw k z (by omega) (by omega) (by omega)⟩⟩
    · rw [u1]
      simp (disch := first | omega | exact q_b_01 _) only [↓reduceIte, q_bk0, q_bk1, q_bk2, q_sg_b, q_b_0, q_b_n0, q_b_1, q_b_n1, q_b_T, q_b_F, q_sg_g, q_sg_sg, q_sg_xs, q_sg_id, q_gu_ne, q_gu_eq, q_g_fne, q_g_cpe, q_w_f, q_v_f, q_u_f, q_fn_f, q_cp_f, q_sg_pg, q_sg_hc, q_lt_t, q_lt_f, q_le_t, q_le_f, q_eq_t, q_eq_f, ne_eq, eq_self, Bool.false_eq_true, Bool.true_eq_false, not_true_eq_false, not_false_eq_true, true_and, and_true, false_and, and_false, true_or, or_true, false_or, or_false, if_true, if_false, Int.reduceAdd, Int.reduceMul, Int.reduceSub, Int.reduceNeg, ve, w1, w2, R_278_88, C_278_90, R_278_93, C_278_95, R_278_98, R_278_105]
    · show (w 285 39).toInt = 0
      rw [fw 285 39 (by omega) (by omega) (by omega)]
      exact h39
end MP2
