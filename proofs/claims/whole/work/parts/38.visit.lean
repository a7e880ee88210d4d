/-! THE CLASS: visit, and all of a walk -/
section VS
variable {L : Nat} {xs : Nat → Int32} {s : Nat → Int → Int32} {O : Nat → Int64} {c : Bool × Nat × Nat} {w : Nat}
variable {m : Int → Int} {top : Int} {Lv : Int → Prop} {ht : Int → Nat} {n : Nat} {r : Int} {hb : Int → Int}
theorem q_I_m1 {x : Int} (h0 : 0 ≤ x) (h1 : x < 2147483648) : q_I x ≠ q_I (-1) := by
  intro e
  have := q_I_inj.mp e
  rw [q_sg_id (by omega) (by omega), q_sg_id (by omega) (by omega)] at this
  omega
theorem cc_visit (hw : isW w) (H : RB m s 7) (T : TD m top Lv ht n r) (Od : Ordd (fun p => pg m p 1) (fun p k => pg m p (4 + k)) (fun p k => pg m p (10 + k)) Lv ht hb) (h48 : top ≤ 48) : ∀ (h d : Nat) {p lvl dp : Int} (V Bn : Int → Int32), Lv p → ht p = h → 1 ≤ lvl → lvl + h ≤ 40 → 0 ≤ dp → dp ≤ 40 → (∀ q, Inn m h p q → Bn q = q_I (-1)) → ∃ Bn', EV (d + h + 1) 125 0 [.ref w, .ref 8, .int (q_I (p)), .int (q_I (lvl)), .null, .null, .null, .null] [] (q_h L xs (wm s w V Bn dp (cn48 Bn)) O c) = some (.inl (some (.int (q_I (kc m h p)))), q_h L xs (wm s w (VF m h p V) Bn' (if dp < lvl + h then lvl + h else dp) (cn48 Bn')) O c) ∧ (∀ q, Inn m h p q → Bn' q = q_I (kc m (ht q) q)) ∧ ∀ q, ¬ Inn m h p q → Bn' q = Bn q
  | 0, d, p, lvl, dp, V, Bn, a, b, l1, l2, d1, d2, hB => by
    have R := td_rng T a
    have e := td_lk T a b
    have hwr := wk_rg hw
    have hc := cn48_rg Bn
    have hb : Bn p = q_I (-1) := hB p rfl
    have kr := kc_rng T Od 0 a b
    have ob := Od.1 p a
    dsimp only at ob
    rw [show (4 : Int) + 0 = 4 from rfl] at ob
    have hBp : (Bn p).toInt = -1 := by rw [hb]; decide
    simp (disch := first | omega | exact q_b_01 _) only [↓reduceIte, q_bk0, q_bk1, q_bk2, q_sg_b, q_b_0, q_b_n0, q_b_1, q_b_n1, q_b_T, q_b_F, q_sg_g, q_sg_sg, q_sg_xs, q_sg_id, q_gu_ne, q_gu_eq, q_g_fne, q_g_cpe, q_w_f, q_v_f, q_u_f, q_fn_f, q_cp_f, q_sg_pg, q_sg_hc, q_lt_t, q_lt_f, q_le_t, q_le_f, q_eq_t, q_eq_f, ne_eq, eq_self, Bool.false_eq_true, Bool.true_eq_false, not_true_eq_false, not_false_eq_true, true_and, and_true, false_and, and_false, true_or, or_true, false_or, or_false, if_true, if_false, Int.reduceAdd, Int.reduceMul, Int.reduceSub, Int.reduceNeg, R_125_0, R_125_4, R_125_7, R_125_11, R_125_13, R_125_17, R_125_23, R_125_25, R_125_29, R_125_32, R_125_37, R_125_42, R_125_47, R_125_51, R_125_54, R_125_68, R_125_71, R_125_78, R_125_90, R_125_104, R_125_112, R_125_116, R_125_128, R_125_134, R_125_140, R_125_144, R_125_149, R_125_152, R_125_156, R_125_161, R_125_164, R_125_170, R_125_174, R_125_178, C_125_1, C_125_48, C_125_125, C_125_146, cc_isInner, wk_g0 hw, wk_g1 hw, wk_g2 hw, wk_g3 hw, wk_g4 hw, wk_p3 hw, wk_p4 hw, wk_l2 hw, wk_s2 hw, wm_f, wm_g2, wm_d, wm_s, wm_2, wm_3, wm_4, hBp, jj_max]
    rw [← cn48_1 (v := 0) (by omega) (by omega) hb (q_I_m1 (by omega) (by omega))]
    obtain ⟨t, e1, e2⟩ := q_for (fun j (t : Value × Value × (Int → Int32)) => EV (d + 0 + 1) 125 60 [.ref w, .ref 8, .int (q_I (p)), .int (q_I (lvl)), .int (q_I (j)), .int (q_I (j)), t.1, t.2.1] [] (q_h L xs (wm s w t.2.2 (fun y => if y = p then q_I 0 else Bn y) (if dp < lvl then lvl else dp) (cn48 (fun y => if y = p then q_I 0 else Bn y))) O c)) (fun j t => t.2.2 = q_it (fun k V z => if z = pg m p (4 + k) then q_I (pg m p (10 + k)) else V z) j.toNat V) (lo := 0) (hi := pg m p 1) (by omega) (fun j t h1 h2 eW => by
      have A := td_la T a b h1 h2
      refine ⟨(.int (q_I (pg m p (4 + j))), .int (q_I (pg m p (10 + j))), fun z => if z = pg m p (4 + j) then q_I (pg m p (10 + j)) else t.2.2 z), ?_, ?_⟩
      · dsimp only
        rw [R_125_60 _ _ _ _ _ _ _ _ _ _ _ _ _ (by omega) (by omega)]
        simp (disch := first | omega | exact q_b_01 _) only [↓reduceIte, q_bk0, q_bk1, q_bk2, q_sg_b, q_b_0, q_b_n0, q_b_1, q_b_n1, q_b_T, q_b_F, q_sg_g, q_sg_sg, q_sg_xs, q_sg_id, q_gu_ne, q_gu_eq, q_g_fne, q_g_cpe, q_w_f, q_v_f, q_u_f, q_fn_f, q_cp_f, q_sg_pg, q_sg_hc, q_lt_t, q_lt_f, q_le_t, q_le_f, q_eq_t, q_eq_f, ne_eq, eq_self, Bool.false_eq_true, Bool.true_eq_false, not_true_eq_false, not_false_eq_true, true_and, and_true, false_and, and_false, true_or, or_true, false_or, or_false, if_true, if_false, Int.reduceAdd, Int.reduceMul, Int.reduceSub, Int.reduceNeg, R_125_0, R_125_4, R_125_7, R_125_11, R_125_13, R_125_17, R_125_23, R_125_25, R_125_29, R_125_32, R_125_37, R_125_42, R_125_47, R_125_51, R_125_54, R_125_68, R_125_71, R_125_78, R_125_90, R_125_104, R_125_112, R_125_116, R_125_128, R_125_134, R_125_140, R_125_144, R_125_149, R_125_152, R_125_156, R_125_161, R_125_164, R_125_170, R_125_174, R_125_178, C_125_1, C_125_48, C_125_125, C_125_146, cc_isKey, wk_g0 hw, wk_s1 hw, wm_f, wm_1, rb_kind H, rb_size H, rb_first H, rb_second H, e]
      · rw [q_it_1 _ h1, ← eW]) (t := (.null, .null, V)) rfl
    refine ⟨fun y => if y = p then q_I (pg m p 1) else Bn y, ?_, ?_, ?_⟩
    · refine Eq.trans e1 ?_
      rw [R_125_60 _ _ _ _ _ _ _ _ _ _ _ _ _ (by omega) (by omega)]
      simp (disch := first | omega | exact q_b_01 _) only [↓reduceIte, q_bk0, q_bk1, q_bk2, q_sg_b, q_b_0, q_b_n0, q_b_1, q_b_n1, q_b_T, q_b_F, q_sg_g, q_sg_sg, q_sg_xs, q_sg_id, q_gu_ne, q_gu_eq, q_g_fne, q_g_cpe, q_w_f, q_v_f, q_u_f, q_fn_f, q_cp_f, q_sg_pg, q_sg_hc, q_lt_t, q_lt_f, q_le_t, q_le_f, q_eq_t, q_eq_f, ne_eq, eq_self, Bool.false_eq_true, Bool.true_eq_false, not_true_eq_false, not_false_eq_true, true_and, and_true, false_and, and_false, true_or, or_true, false_or, or_false, if_true, if_false, Int.reduceAdd, Int.reduceMul, Int.reduceSub, Int.reduceNeg, R_125_0, R_125_4, R_125_7, R_125_11, R_125_13, R_125_17, R_125_23, R_125_25, R_125_29, R_125_32, R_125_37, R_125_42, R_125_47, R_125_51, R_125_54, R_125_68, R_125_71, R_125_78, R_125_90, R_125_104, R_125_112, R_125_116, R_125_128, R_125_134, R_125_140, R_125_144, R_125_149, R_125_152, R_125_156, R_125_161, R_125_164, R_125_170, R_125_174, R_125_178, C_125_1, C_125_48, C_125_125, C_125_146, wk_g1 hw, wk_s2 hw, wm_f, wm_2, rb_size H]
      rw [e2]
      rw [cn48_c (Bn := fun y => if y = p then q_I 0 else Bn y) (Bn' := fun y => if y = p then q_I (pg m p 1) else Bn y) (fun q _ _ => by
        by_cases eq : q = p
        · simp only [eq, if_true]
          exact ⟨fun _ => q_I_m1 (by omega) (by omega), fun _ => q_I_m1 (by omega) (by omega)⟩
        · simp only [eq, if_false])]
      rw [show lvl + ((0 : Nat) : Int) = lvl by omega]
      rfl
    · intro q hq
      have : q = p := hq
      subst this
      rw [b]
      exact if_pos rfl
    · intro q hq
      have : ¬ q = p := hq
      exact if_neg this
  | h + 1, d, p, lvl, dp, V, Bn, a, b, l1, l2, d1, d2, hB => by
    have R := td_rng T a
    have e := td_bk T a (by omega)
    have hwr := wk_rg hw
    have hc := cn48_rg Bn
    have hb : Bn p = q_I (-1) := hB p (Or.inl rfl)
    have kr := kc_rng T Od (h + 1) a b
    have ob := Od.1 p a
    dsimp only at ob
    rw [show (4 : Int) + 0 = 4 from rfl] at ob
    have hBp : (Bn p).toInt = -1 := by rw [hb]; decide
    rw [← Nat.add_assoc]
    simp (disch := first | omega | exact q_b_01 _) only [↓reduceIte, q_bk0, q_bk1, q_bk2, q_sg_b, q_b_0, q_b_n0, q_b_1, q_b_n1, q_b_T, q_b_F, q_sg_g, q_sg_sg, q_sg_xs, q_sg_id, q_gu_ne, q_gu_eq, q_g_fne, q_g_cpe, q_w_f, q_v_f, q_u_f, q_fn_f, q_cp_f, q_sg_pg, q_sg_hc, q_lt_t, q_lt_f, q_le_t, q_le_f, q_eq_t, q_eq_f, ne_eq, eq_self, Bool.false_eq_true, Bool.true_eq_false, not_true_eq_false, not_false_eq_true, true_and, and_true, false_and, and_false, true_or, or_true, false_or, or_false, if_true, if_false, Int.reduceAdd, Int.reduceMul, Int.reduceSub, Int.reduceNeg, R_125_0, R_125_4, R_125_7, R_125_11, R_125_13, R_125_17, R_125_23, R_125_25, R_125_29, R_125_32, R_125_37, R_125_42, R_125_47, R_125_51, R_125_54, R_125_68, R_125_71, R_125_78, R_125_90, R_125_104, R_125_112, R_125_116, R_125_128, R_125_134, R_125_140, R_125_144, R_125_149, R_125_152, R_125_156, R_125_161, R_125_164, R_125_170, R_125_174, R_125_178, C_125_1, C_125_48, C_125_125, C_125_146, cc_isInner, wk_g0 hw, wk_g1 hw, wk_g2 hw, wk_g3 hw, wk_g4 hw, wk_p3 hw, wk_p4 hw, wk_l2 hw, wk_s2 hw, wm_f, wm_g2, wm_d, wm_s, wm_2, wm_3, wm_4, hBp, jj_max]
    rw [← cn48_1 (v := 0) (by omega) (by omega) hb (q_I_m1 (by omega) (by omega))]
    obtain ⟨t, e1, f1, f2, f3, f4, f5, f6, f7⟩ := q_for (fun j (t : Value × Value × Int × (Int → Int32) × (Int → Int32) × Int) => EV (d + h + 1 + 1) 125 60 [.ref w, .ref 8, .int (q_I (p)), .int (q_I (lvl)), .int (q_I (t.2.2.1)), .int (q_I (j)), t.1, t.2.1] [] (q_h L xs (wm s w t.2.2.2.1 t.2.2.2.2.1 t.2.2.2.2.2 (cn48 t.2.2.2.2.1)) O c)) (fun j t => t.2.2.1 = q_S (fun k => kc m h (pg m p (10 + k))) 0 j ∧ t.2.2.2.1 = q_it (fun k V => VF m h (pg m p (10 + k)) V) j.toNat V ∧ (∀ q, (∃ k, 0 ≤ k ∧ k < j ∧ Inn m h (pg m p (10 + k)) q) → t.2.2.2.2.1 q = q_I (kc m (ht q) q)) ∧ t.2.2.2.2.1 p = q_I 0 ∧ (∀ q, ¬ (q = p ∨ ∃ k, 0 ≤ k ∧ k < j ∧ Inn m h (pg m p (10 + k)) q) → t.2.2.2.2.1 q = Bn q) ∧ (j = 0 → t.2.2.2.2.2 = if dp < lvl then lvl else dp) ∧ (0 < j → t.2.2.2.2.2 = if dp < lvl + ((h + 1 : Nat) : Int) then lvl + ((h + 1 : Nat) : Int) else dp)) (lo := 0) (hi := pg m p 1) (by omega) (fun j t h1 h2 ⟨f1, f2, f3, f4, f5, f6, f7⟩ => by
      obtain ⟨c1, c2⟩ := td_bc T a (by omega) h1 h2
      have hdp : 0 ≤ t.2.2.2.2.2 ∧ t.2.2.2.2.2 ≤ 40 ∧ (j = 0 → lvl ≤ t.2.2.2.2.2) := by
        by_cases ej : j = 0
        · have := f6 ej
          split at this <;> omega
        · have := f7 (by omega)
          split at this <;> omega
      obtain ⟨Bn2, i1, i2, i3⟩ := cc_visit hw H T Od h48 h d (lvl := lvl + 1) (dp := t.2.2.2.2.2) t.2.2.2.1 t.2.2.2.2.1 c1 (by omega) (by omega) (by omega) hdp.1 hdp.2.1 (fun q hq => by
        rw [f5 q, hB q (Or.inr ⟨j, h1, h2, hq⟩)]
        rintro (e' | ⟨k, k1, k2, k3⟩)
        · subst e'
          exact td_nself T a (by omega) h1 h2 hq
        · exact td_sib T a (by omega) k1 (by omega) h1 h2 (by omega) k3 hq)
      refine ⟨(.int (q_I (pg m p (4 + j))), .int (q_I (pg m p (10 + j))), t.2.2.1 + kc m h (pg m p (10 + j)), VF m h (pg m p (10 + j)) t.2.2.2.1, Bn2, if t.2.2.2.2.2 < lvl + 1 + (h : Int) then lvl + 1 + (h : Int) else t.2.2.2.2.2), ?_, ?_, ?_, ?_, ?_, ?_, ?_, ?_⟩
      · rw [R_125_60 _ _ _ _ _ _ _ _ _ _ _ _ _ (by omega) (by omega)]
        simp (disch := first | omega | exact q_b_01 _) only [↓reduceIte, q_bk0, q_bk1, q_bk2, q_sg_b, q_b_0, q_b_n0, q_b_1, q_b_n1, q_b_T, q_b_F, q_sg_g, q_sg_sg, q_sg_xs, q_sg_id, q_gu_ne, q_gu_eq, q_g_fne, q_g_cpe, q_w_f, q_v_f, q_u_f, q_fn_f, q_cp_f, q_sg_pg, q_sg_hc, q_lt_t, q_lt_f, q_le_t, q_le_f, q_eq_t, q_eq_f, ne_eq, eq_self, Bool.false_eq_true, Bool.true_eq_false, not_true_eq_false, not_false_eq_true, true_and, and_true, false_and, and_false, true_or, or_true, false_or, or_false, if_true, if_false, Int.reduceAdd, Int.reduceMul, Int.reduceSub, Int.reduceNeg, R_125_0, R_125_4, R_125_7, R_125_11, R_125_13, R_125_17, R_125_23, R_125_25, R_125_29, R_125_32, R_125_37, R_125_42, R_125_47, R_125_51, R_125_54, R_125_68, R_125_71, R_125_78, R_125_90, R_125_104, R_125_112, R_125_116, R_125_128, R_125_134, R_125_140, R_125_144, R_125_149, R_125_152, R_125_156, R_125_161, R_125_164, R_125_170, R_125_174, R_125_178, C_125_1, C_125_48, C_125_125, C_125_146, wk_rc hw, wm_f, rb_kind H, rb_size H, rb_first H, rb_second H, e, i1]
      · rw [f1, q_S_1 _ h1]
      · rw [q_it_1 _ h1, ← f2]
      · rintro q ⟨k, k1, k2, k3⟩
        by_cases hj : Inn m h (pg m p (10 + j)) q
        · exact i2 q hj
        · dsimp only
          rw [i3 q hj]
          refine f3 q ⟨k, k1, ?_, k3⟩
          rcases Int.lt_or_eq_of_le (show k ≤ j by omega) with h' | h'
          · exact h'
          · exact absurd (h' ▸ k3) hj
      · dsimp only
        rw [i3 p (td_nself T a (by omega) h1 h2), f4]
      · intro q hq
        dsimp only
        rw [i3 q (fun hj => hq (Or.inr ⟨j, h1, by omega, hj⟩))]
        exact f5 q (fun h' => hq (h'.imp id (fun ⟨k, k1, k2, k3⟩ => ⟨k, k1, by omega, k3⟩)))
      · intro h'
        omega
      · intro _
        dsimp only
        by_cases ej : j = 0
        · have := f6 ej
          split at this <;> (repeat' split) <;> omega
        · have := f7 (by omega)
          split at this <;> (repeat' split) <;> omega) (t := (.null, .null, 0, V, fun y => if y = p then q_I 0 else Bn y, if dp < lvl then lvl else dp)) ⟨(q_S_0 _ _).symm, rfl, (fun q ⟨k, k1, k2, _⟩ => absurd k2 (by omega)), if_pos rfl, (fun q hq => if_neg (fun e' => hq (Or.inl e'))), fun _ => rfl, fun h' => absurd h' (by omega)⟩
    refine ⟨fun y => if y = p then q_I (kc m (h + 1) p) else t.2.2.2.2.1 y, ?_, ?_, ?_⟩
    · refine Eq.trans e1 ?_
      rw [R_125_60 _ _ _ _ _ _ _ _ _ _ _ _ _ (by omega) (by omega)]
      have ek : q_S (fun k => kc m h (pg m p (10 + k))) 0 (pg m p 1) = kc m (h + 1) p := rfl
      rw [ek] at f1
      simp (disch := first | omega | exact q_b_01 _) only [↓reduceIte, q_bk0, q_bk1, q_bk2, q_sg_b, q_b_0, q_b_n0, q_b_1, q_b_n1, q_b_T, q_b_F, q_sg_g, q_sg_sg, q_sg_xs, q_sg_id, q_gu_ne, q_gu_eq, q_g_fne, q_g_cpe, q_w_f, q_v_f, q_u_f, q_fn_f, q_cp_f, q_sg_pg, q_sg_hc, q_lt_t, q_lt_f, q_le_t, q_le_f, q_eq_t, q_eq_f, ne_eq, eq_self, Bool.false_eq_true, Bool.true_eq_false, not_true_eq_false, not_false_eq_true, true_and, and_true, false_and, and_false, true_or, or_true, false_or, or_false, if_true, if_false, Int.reduceAdd, Int.reduceMul, Int.reduceSub, Int.reduceNeg, R_125_0, R_125_4, R_125_7, R_125_11, R_125_13, R_125_17, R_125_23, R_125_25, R_125_29, R_125_32, R_125_37, R_125_42, R_125_47, R_125_51, R_125_54, R_125_68, R_125_71, R_125_78, R_125_90, R_125_104, R_125_112, R_125_116, R_125_128, R_125_134, R_125_140, R_125_144, R_125_149, R_125_152, R_125_156, R_125_161, R_125_164, R_125_170, R_125_174, R_125_178, C_125_1, C_125_48, C_125_125, C_125_146, wk_g1 hw, wk_s2 hw, wm_f, wm_2, rb_size H, f1]
      rw [f2, f7 (by omega)]
      rw [cn48_c (Bn := t.2.2.2.2.1) (Bn' := fun y => if y = p then q_I (kc m (h + 1) p) else t.2.2.2.2.1 y) (fun q _ _ => by
        by_cases eq : q = p
        · simp only [eq, if_true, f4]
          exact ⟨fun _ => q_I_m1 (by omega) (by omega), fun _ => q_I_m1 (by omega) (by omega)⟩
        · simp only [eq, if_false])]
      rfl
    · intro q hq
      by_cases eq : q = p
      · subst eq
        rw [b]
        exact if_pos rfl
      · exact (if_neg eq).trans (f3 q (hq.resolve_left eq))
    · intro q hq
      exact (if_neg (fun eq => hq (Or.inl eq))).trans (f5 q hq)
end VS
