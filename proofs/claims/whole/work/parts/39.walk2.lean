/-! THE CLASS: a walk read anew -/
def VR (m : Int → Int) (r : Int) : Int → Int32 := if r = -1 then fun _ => q_I (-1) else VFx m 13 r (fun _ => q_I (-1))
def BB (m : Int → Int) (r q : Int) : Int32 := if (decide (r ≠ -1) && Inb m 13 r q) = true then q_I (kcx m 13 q) else q_I (-1)
def wk (m : Int → Int) (r : Int) (s : Nat → Int → Int32) (w : Nat) : Nat → Int → Int32 := q_u (wm s w (VR m r) (BB m r) (DP m r) (cn48 (BB m r))) w 2 (KC m r)
section RD
variable {d L : Nat} {xs : Nat → Int32} {s : Nat → Int → Int32} {O : Nat → Int64} {c : Bool × Nat × Nat} {w : Nat}
variable {m : Int → Int} {r : Int}
theorem wk_f {k : Nat} (h : k < w ∨ w + 2 < k) : q_g (wk m r s w) k = q_g s k := by
  unfold wk
  rw [q_u_f (by omega), wm_f h]
theorem wk_v {z : Int} (h0 : 0 ≤ z) (h1 : z < 100) : q_g (wk m r s w) (w + 1) z = (VR m r z).toInt := by
  unfold wk
  rw [q_gu_ne (by omega), wm_g1 h0 h1]
theorem wk_b {z : Int} (h0 : 0 ≤ z) (h1 : z < 48) : q_g (wk m r s w) (w + 2) z = (BB m r z).toInt := by
  unfold wk
  rw [q_gu_ne (by omega), wm_g2 h0 h1]
theorem wk_k : q_g (wk m r s w) w 2 = q_sg (KC m r) := by
  unfold wk
  rw [q_gu_eq rfl]
theorem wk_d : q_g (wk m r s w) w 3 = q_sg (DP m r) := by
  unfold wk
  rw [q_gu_ne (by omega), wm_d]
theorem wk_s : q_g (wk m r s w) w 4 = q_sg (cn48 (BB m r)) := by
  unfold wk
  rw [q_gu_ne (by omega), wm_s]
theorem cc_read (hw : isW w) (H : RB m s 7) {Lv : Int → Prop} (T : TreeD m 48 Lv r) : EV (d + 14) 124 0 [.ref w, .ref 8, .int (q_I (r))] [] (q_h L xs s O c) = some (.inl none, q_h L xs (wk m r s w) O c) := by
  have hwr := wk_rg hw
  have c0 : cn48 (fun _ => q_I (-1)) = 0 := by decide
  have e0 : q_u (q_u (q_v (q_v s (w + 1) 0 ((100 : Nat) : Int) fun _ => q_I (-1)) (w + 2) 0 ((48 : Nat) : Int) fun _ => q_I (-1)) w 3 0) w 4 0 = wm s w (fun _ => q_I (-1)) (fun _ => q_I (-1)) 0 (cn48 (fun _ => q_I (-1))) := by rw [c0]; rfl
  rcases T with ⟨e, -⟩ | ⟨n, ht, hb, hn, T, Od, -⟩
  · subst e
    simp (disch := first | omega | exact q_b_01 _) only [↓reduceIte, q_bk0, q_bk1, q_bk2, q_sg_b, q_b_0, q_b_n0, q_b_1, q_b_n1, q_b_T, q_b_F, q_sg_g, q_sg_sg, q_sg_xs, q_sg_id, q_gu_ne, q_gu_eq, q_g_fne, q_g_cpe, q_w_f, q_v_f, q_u_f, q_fn_f, q_cp_f, q_sg_pg, q_sg_hc, q_lt_t, q_lt_f, q_le_t, q_le_f, q_eq_t, q_eq_f, ne_eq, eq_self, Bool.false_eq_true, Bool.true_eq_false, not_true_eq_false, not_false_eq_true, true_and, and_true, false_and, and_false, true_or, or_true, false_or, or_false, if_true, if_false, Int.reduceAdd, Int.reduceMul, Int.reduceSub, Int.reduceNeg, R_124_0, R_124_4, R_124_8, R_124_12, R_124_16, R_124_21, R_124_26, R_124_34, R_124_37, C_124_5, C_124_13, C_124_31, wk_g0 hw, wk_g1 hw, wk_p2 hw, wk_p3 hw, wk_p4 hw, wk_rc hw, jj_fill (wk_A1 hw) (by decide), jj_fill (wk_A2 hw) (by decide), R_125_0, R_125_4, R_125_7, R_125_11, R_125_13, R_125_17, R_125_23, R_125_25, R_125_29, R_125_32, R_125_37, R_125_42, R_125_47, R_125_51, R_125_54, R_125_68, R_125_71, R_125_78, R_125_90, R_125_104, R_125_112, R_125_116, R_125_128, R_125_134, R_125_140, R_125_144, R_125_149, R_125_152, R_125_156, R_125_161, R_125_164, R_125_170, R_125_174, R_125_178, C_125_1, C_125_48, C_125_125, C_125_146, cc_isInner]
    rw [e0]
    rfl
  · obtain ⟨a, b⟩ := td_root T
    have R := td_rng T a
    obtain ⟨Bn, i1, i2, i3⟩ := cc_visit (L := L) (xs := xs) (O := O) (c := c) hw H T Od (by omega) n (d + (12 - n)) (lvl := 1) (dp := 0) (fun _ => q_I (-1)) (fun _ => q_I (-1)) a b (by omega) (by omega) (by omega) (by omega) (fun _ _ => rfl)
    rw [show d + (12 - n) + n + 1 = d + 13 by omega, ← e0] at i1
    simp (disch := first | omega | exact q_b_01 _) only [↓reduceIte, q_bk0, q_bk1, q_bk2, q_sg_b, q_b_0, q_b_n0, q_b_1, q_b_n1, q_b_T, q_b_F, q_sg_g, q_sg_sg, q_sg_xs, q_sg_id, q_gu_ne, q_gu_eq, q_g_fne, q_g_cpe, q_w_f, q_v_f, q_u_f, q_fn_f, q_cp_f, q_sg_pg, q_sg_hc, q_lt_t, q_lt_f, q_le_t, q_le_f, q_eq_t, q_eq_f, ne_eq, eq_self, Bool.false_eq_true, Bool.true_eq_false, not_true_eq_false, not_false_eq_true, true_and, and_true, false_and, and_false, true_or, or_true, false_or, or_false, if_true, if_false, Int.reduceAdd, Int.reduceMul, Int.reduceSub, Int.reduceNeg, R_124_0, R_124_4, R_124_8, R_124_12, R_124_16, R_124_21, R_124_26, R_124_34, R_124_37, C_124_5, C_124_13, C_124_31, wk_g0 hw, wk_g1 hw, wk_p2 hw, wk_p3 hw, wk_p4 hw, wk_rc hw, jj_fill (wk_A1 hw) (by decide), jj_fill (wk_A2 hw) (by decide), i1]
    have eB : Bn = BB m r := by
      funext q
      unfold BB
      have i := cn_in T n 13 q a b (by omega)
      by_cases h : Inb m 13 r q = true
      · have hq := i.mp h
        obtain ⟨l1, l2⟩ := td_inn T n a b hq
        rw [i2 q hq, if_pos (by rw [h, decide_eq_true (by omega)]; rfl), cn_kc T (ht q) 13 l1 rfl (by omega)]
      · rw [i3 q (fun x => h (i.mpr x)), if_neg]
        simp [h]
    unfold wk VR KC DP
    rw [if_neg (show r ≠ -1 by omega), if_neg (show r ≠ -1 by omega), if_neg (show r ≠ -1 by omega), cn_kc T n 13 a b (by omega), cn_dp T n 13 a b (by omega), cn_vf T n 13 _ a b (by omega), ← eB]
    rw [show (1 : Int) + n = n + 1 by omega]
theorem r264_W {v : Int} (h0 : 0 ≤ v) (h1 : v < 5) : isW (q_r264 v) := by
  unfold isW q_r264
  omega
theorem cc_walkOf (H : RB m s 7) (Hd : HdI m) (Hv : Vw m) {v : Int} (h0 : 0 ≤ v) (h1 : v < 5) : EV (d + 15) 189 0 [.ref 1, .int (q_I (v)), .null] [] (q_h L xs s O c) = some (.inl (some (.ref (q_r264 v))), q_h L xs (wk m (ve m v) s (q_r264 v)) O c) := by
  obtain ⟨Lv, T⟩ := Hv v h0 h1
  have e := cve_eq H Hd h0 h1
  simp (disch := first | omega | exact q_b_01 _) only [↓reduceIte, q_bk0, q_bk1, q_bk2, q_sg_b, q_b_0, q_b_n0, q_b_1, q_b_n1, q_b_T, q_b_F, q_sg_g, q_sg_sg, q_sg_xs, q_sg_id, q_gu_ne, q_gu_eq, q_g_fne, q_g_cpe, q_w_f, q_v_f, q_u_f, q_fn_f, q_cp_f, q_sg_pg, q_sg_hc, q_lt_t, q_lt_f, q_le_t, q_le_f, q_eq_t, q_eq_f, ne_eq, eq_self, Bool.false_eq_true, Bool.true_eq_false, not_true_eq_false, not_false_eq_true, true_and, and_true, false_and, and_false, true_or, or_true, false_or, or_false, if_true, if_false, Int.reduceAdd, Int.reduceMul, Int.reduceSub, Int.reduceNeg, R_189_0, R_189_8, R_189_11, R_189_15, R_189_16, R_189_17, R_189_34, C_189_5, C_189_28, C_189_31, cc_isView, cc_rootOf, e, wk_rc (r264_W h0 h1), cc_read (r264_W h0 h1) H T]
/-- the walk of view v lies read -/
def Wk (m : Int → Int) (v : Int) (t : Nat → Int → Int32) : Prop := (∀ z, 0 ≤ z → z < 100 → q_g t (q_r264 v + 1) z = (VR m (ve m v) z).toInt) ∧ (∀ z, 0 ≤ z → z < 48 → q_g t (q_r264 v + 2) z = (BB m (ve m v) z).toInt) ∧ q_g t (q_r264 v) 2 = q_sg (KC m (ve m v)) ∧ q_g t (q_r264 v) 3 = q_sg (DP m (ve m v)) ∧ q_g t (q_r264 v) 4 = q_sg (cn48 (BB m (ve m v)))
theorem Wk_new {v : Int} : Wk m v (wk m (ve m v) s (q_r264 v)) := ⟨fun _ a b => wk_v a b, fun _ a b => wk_b a b, wk_k, wk_d, wk_s⟩
theorem Wk_fr {v : Int} {t : Nat → Int → Int32} (h : Wk m v s) (e0 : t (q_r264 v) = s (q_r264 v)) (e1 : t (q_r264 v + 1) = s (q_r264 v + 1)) (e2 : t (q_r264 v + 2) = s (q_r264 v + 2)) : Wk m v t := by
  unfold Wk q_g at *
  rw [e0, e1, e2]
  exact h
theorem wk_c {k : Nat} (h : k < w ∨ w + 2 < k) : wk m r s w k = s k := by
  funext z
  unfold wk wm q_u q_v
  simp only [show ¬ k = w by omega, show ¬ k = w + 1 by omega, show ¬ k = w + 2 by omega, false_and, if_false]
theorem Wk_old {v o : Int} (hv : 0 ≤ v) (ho : 0 ≤ o) (h : Wk m v s) : Wk m v (wk m (ve m o) s (q_r264 o)) := by
  by_cases e : o = v
  · subst e
    exact Wk_new
  · refine Wk_fr h (wk_c ?_) (wk_c ?_) (wk_c ?_) <;> (unfold q_r264; omega)
theorem rb_fr {m : Int → Int} {s t : Nat → Int → Int32} (H : RB m s 7) (h : ∀ k, 7 ≤ k → k ≤ 20 → t k = s k) : RB m t 7 := by
  have e : ∀ k, 7 ≤ k → k ≤ 20 → q_g t k = q_g s k := fun k a b => by
    unfold q_g
    rw [h k a b]
  unfold RB at *
  rw [e 7 (by omega) (by omega), e (7 + 2) (by omega) (by omega), e (7 + 3) (by omega) (by omega), e (7 + 4) (by omega) (by omega), e (7 + 5) (by omega) (by omega), e (7 + 6) (by omega) (by omega), e (7 + 7) (by omega) (by omega), e (7 + 8) (by omega) (by omega), e (7 + 9) (by omega) (by omega), e (7 + 10) (by omega) (by omega), e (7 + 11) (by omega) (by omega), e (7 + 12) (by omega) (by omega), e (7 + 13) (by omega) (by omega)]
  exact H
theorem rb_wk (H : RB m s 7) {v r : Int} (h0 : 0 ≤ v) : RB m (wk m r s (q_r264 v)) 7 := rb_fr H (fun k a b => wk_c (by unfold q_r264; omega))
theorem cc_readViews (H : RB m s 7) (Hd : HdI m) (Hv : Vw m) : ∃ t, EV (d + 16) 190 0 [.ref 1, .null] [] (q_h L xs s O c) = some (.inl none, q_h L xs (t) O c) ∧ (∀ v, 0 ≤ v → v < 5 → Wk m v t) ∧ ∀ k, k < 270 ∨ 284 < k → t k = s k := by
  simp (disch := first | omega | exact q_b_01 _) only [↓reduceIte, q_bk0, q_bk1, q_bk2, q_sg_b, q_b_0, q_b_n0, q_b_1, q_b_n1, q_b_T, q_b_F, q_sg_g, q_sg_sg, q_sg_xs, q_sg_id, q_gu_ne, q_gu_eq, q_g_fne, q_g_cpe, q_w_f, q_v_f, q_u_f, q_fn_f, q_cp_f, q_sg_pg, q_sg_hc, q_lt_t, q_lt_f, q_le_t, q_le_f, q_eq_t, q_eq_f, ne_eq, eq_self, Bool.false_eq_true, Bool.true_eq_false, not_true_eq_false, not_false_eq_true, true_and, and_true, false_and, and_false, true_or, or_true, false_or, or_false, if_true, if_false, Int.reduceAdd, Int.reduceMul, Int.reduceSub, Int.reduceNeg, R_190_0, R_190_7, R_190_12, R_190_19, C_190_9]
  obtain ⟨t, e1, f1, f2⟩ := q_for (fun j t => EV (d + 16) 190 2 [.ref 1, .int (q_I (j))] [] (q_h L xs (t) O c)) (fun j t => (∀ v, 0 ≤ v → v < j → Wk m v t) ∧ ∀ k, k < 270 ∨ 284 < k → t k = s k) (lo := 0) (hi := 5) (by omega) (fun j t h1 h2 ⟨f1, f2⟩ => by
    refine ⟨wk m (ve m j) t (q_r264 j), ?_, fun v h3 h4 => ?_, fun k hk => ?_⟩
    · rw [R_190_2]
      have H' : RB m t 7 := rb_fr H (fun k a b => f2 k (by omega))
      simp (disch := first | omega | exact q_b_01 _) only [↓reduceIte, q_bk0, q_bk1, q_bk2, q_sg_b, q_b_0, q_b_n0, q_b_1, q_b_n1, q_b_T, q_b_F, q_sg_g, q_sg_sg, q_sg_xs, q_sg_id, q_gu_ne, q_gu_eq, q_g_fne, q_g_cpe, q_w_f, q_v_f, q_u_f, q_fn_f, q_cp_f, q_sg_pg, q_sg_hc, q_lt_t, q_lt_f, q_le_t, q_le_f, q_eq_t, q_eq_f, ne_eq, eq_self, Bool.false_eq_true, Bool.true_eq_false, not_true_eq_false, not_false_eq_true, true_and, and_true, false_and, and_false, true_or, or_true, false_or, or_false, if_true, if_false, Int.reduceAdd, Int.reduceMul, Int.reduceSub, Int.reduceNeg, R_190_0, R_190_7, R_190_12, R_190_19, C_190_9, cc_walkOf H' Hd Hv]
    · by_cases e : v = j
      · subst e
        exact Wk_new
      · exact Wk_old h3 h1 (f1 v h3 (by omega))
    · rw [wk_c (by unfold q_r264; omega), f2 k hk]) (t := s) ⟨fun v h3 h4 => absurd h4 (by omega), fun _ _ => rfl⟩
  refine ⟨t, ?_, f1, f2⟩
  refine Eq.trans e1 ?_
  rw [R_190_2]
  simp (disch := first | omega | exact q_b_01 _) only [↓reduceIte, q_bk0, q_bk1, q_bk2, q_sg_b, q_b_0, q_b_n0, q_b_1, q_b_n1, q_b_T, q_b_F, q_sg_g, q_sg_sg, q_sg_xs, q_sg_id, q_gu_ne, q_gu_eq, q_g_fne, q_g_cpe, q_w_f, q_v_f, q_u_f, q_fn_f, q_cp_f, q_sg_pg, q_sg_hc, q_lt_t, q_lt_f, q_le_t, q_le_f, q_eq_t, q_eq_f, ne_eq, eq_self, Bool.false_eq_true, Bool.true_eq_false, not_true_eq_false, not_false_eq_true, true_and, and_true, false_and, and_false, true_or, or_true, false_or, or_false, if_true, if_false, Int.reduceAdd, Int.reduceMul, Int.reduceSub, Int.reduceNeg, R_190_0, R_190_7, R_190_12, R_190_19, C_190_9]
end RD
