/-! THE CLASS: a plan is made; its changes, what is free -/
noncomputable def cNo : Option Tr → Int
  | none => 0
  | some t => cN t
noncomputable def MkA (m : Int → Int) (Lv : Int → Prop) (T : Option Tr) (ks vs : Int → Int) (i : Int) (t : Nat → Int → Int32) : Prop :=
  CSt t (dTs T ks vs i.toNat) (dLs T ks vs i.toNat) i ∧ (dAs T ks vs i.toNat → q_g t 242 11 = 1) ∧ (¬ dAs T ks vs i.toNat → q_g t 242 11 = 0) ∧ LfP Lv (dTs T ks vs i.toNat) (dLs T ks vs i.toNat) ∧ OldO (dk m) (dTs T ks vs i.toNat)
section CMK
variable {d L : Nat} {xs : Nat → Int32} {s : Nat → Int → Int32} {O : Nat → Int64} {c : Bool × Nat × Nat} {m : Int → Int} {b n : Int} {Lv : Int → Prop} {T : Option Tr} {x2 x3 n2 n3 : Nat}
theorem rb_k {m : Int → Int} {s t : Nat → Int → Int32} (H : RB m s 7) (h : ∀ k z, 7 ≤ k → k ≤ 20 → t k z = s k z) : RB m t 7 := rb_sm H (fun k h1 h2 => funext fun z => by
  show (t k z).toInt = _
  rw [h k z h1 h2]
  rfl)
theorem cc_makeA (H : RB m s 7) (I : Inv m b) (hb : b < 2147483648) (S : St0 m T Lv) (D : Dsk m Lv) (hk : ly_A x2 n2 .int) (hv : ly_A x3 n3 .int) (k2 : n2 < 2147483648) (k3 : n3 < 2147483648) (o2 : ¬ (241 ≤ x2 ∧ x2 ≤ 260)) (o3 : ¬ (241 ≤ x3 ∧ x3 ≤ 260)) (n0 : 0 ≤ n) (n12 : n ≤ 12) (l2 : n ≤ n2) (l3 : n ≤ n3) (hK : ∀ i, 0 ≤ i → i < n → 0 ≤ q_g s x2 i ∧ q_g s x2 i < 100 ∧ 0 ≤ q_g s x3 i ∧ q_g s x3 i ≤ 100) : ∃ u, EV (d + 6) 86 0 [.ref 241, .ref 7, .ref x2, .ref x3, .int (q_I (n)), .null] [] (q_h L xs s O c) = EV (d + 6) 86 61 [.ref 241, .ref 7, .ref x2, .ref x3, .int (q_I (n)), .int (q_I (n))] [] (q_h L xs (u) O c) ∧ MkA m Lv T (q_g s x2) (q_g s x3) n u ∧ q_g u 241 10 = 0 ∧ ∀ k z, ¬ (242 ≤ k ∧ k ≤ 250) → ¬ (k = 241 ∧ z = 10) → u k z = s k z := by
  have h48 := I.1.2.2.2.1.2.2.2
  have hR : ∀ p, 0 ≤ p → p < 48 → pg m p 1 ≤ 6 := fun p p0 p1 => by
    by_cases e : p < 2
    · have := I.1.1
      rcases (show p = 0 ∨ p = 1 by omega) with e | e
      · rw [e]
        omega
      · rw [e]
        omega
    · exact (I.1.2.1 p (by omega) p1).2.2.1
  obtain ⟨u, u1, u2, u3, u4, u5, u6, u7⟩ := cc_load (d := d + 3) (L := L) (xs := xs) (s := q_u s 241 10 0) (O := O) (c := c) (rb_k H (fun k z h1 h2 => q_u_n (by omega))) (inv_hd I) hR
  have C0 : CSt u T (fun _ => False) 0 := by
    have pt := pot_st S.1 (st_cnt S h48)
    refine ⟨by omega, u6, ⟨fun z z0 z1 => ⟨Or.inl (u2 z z0 z1).2.2.2.1, fun q => by have := (u2 z z0 z1).2.2.2.1; omega, fun q => q.elim⟩, fun z z0 z1 q => by have := (u2 z z0 z1).2.2.1; omega⟩, S.1, by omega, fun e => by rw [u4]; exact (S.2.1 e).1, fun t ht => ?_⟩
    obtain ⟨s1, s2⟩ := S.2.2 t ht
    rw [u3, u4]
    refine Sub_frn s1 h48 (fun y hy => ?_)
    have yr := s1.2.2 y hy
    obtain ⟨a1, a2, a3, a4, a5⟩ := u2 y (by omega) (by omega)
    exact ⟨a1, a2, a3, fun k k0 k1 => a5 k k0 k1⟩
  obtain ⟨w, w1, w2, w3⟩ := q_for (fun i t => EV (d + 6) 86 19 [.ref 241, .ref 7, .ref x2, .ref x3, .int (q_I (n)), .int (q_I (i))] [] (q_h L xs (t) O c)) (fun i t => MkA m Lv T (q_g s x2) (q_g s x3) i t ∧ ∀ k z, ¬ (242 ≤ k ∧ k ≤ 250) → t k z = u k z) (lo := 0) (hi := n) n0 (fun i t i0 i1 P => by
      obtain ⟨⟨p1, p2, p3, p4, p5⟩, p6⟩ := P
      have g : ∀ k z, ¬ (241 ≤ k ∧ k ≤ 260) → q_g t k z = q_g s k z := fun k z hk => by
        show (t k z).toInt = _
        rw [p6 k z (by omega), u7 k z (by omega), q_u_n (by omega)]
        rfl
      have e2 := g x2 i o2
      have e3 := g x3 i o3
      obtain ⟨q1, q2, q3, q4⟩ := hK i i0 i1
      have en : ((i.toNat : Nat) : Int) = i := by omega
      have en1 : (i + 1).toNat = i.toNat + 1 := by omega
      obtain ⟨v, v1, v2, v3, v4, v5⟩ := cc_apply (d := d) (L := L) (xs := xs) (O := O) (c := c) (key := q_g s x2 i) (v := q_g s x3 i) p1 i0 (by omega) q1 q2 q3 q4
      have dp : DPo (dTs T (q_g s x2) (q_g s x3) i.toNat) := DPo_of p1.2.2.2.2.2.2
      refine ⟨v, ?_, ⟨?_, fun h => ?_, fun h => ?_, ?_, ?_⟩, fun k z hk => by rw [v5 k z hk, p6 k z hk]⟩
      · show EV (d + 6) 86 19 [.ref 241, .ref 7, .ref x2, .ref x3, .int (q_I (n)), .int (q_I (i))] [] (q_h L xs (t) O c) = EV (d + 6) 86 19 [.ref 241, .ref 7, .ref x2, .ref x3, .int (q_I (n)), .int (q_I (i + 1))] [] (q_h L xs (v) O c)
        rw [R_86_19 (x5 := i)]
        have ld2 := q_ld (L := L) (xs := xs) (s := t) (O := O) (c := c) hk i0 (show i < n2 by omega) k2
        have ld3 := q_ld (L := L) (xs := xs) (s := t) (O := O) (c := c) hv i0 (show i < n3 by omega) k3
        rw [e2] at ld2
        rw [e3] at ld3
        simp (disch := first | omega | exact q_b_01 _) only [↓reduceIte, q_bk0, q_bk1, q_bk2, q_sg_b, q_b_0, q_b_n0, q_b_1, q_b_n1, q_b_T, q_b_F, q_sg_g, q_sg_sg, q_sg_xs, q_sg_id, q_gu_ne, q_gu_eq, q_g_fne, q_g_cpe, q_w_f, q_v_f, q_u_f, q_fn_f, q_cp_f, q_sg_pg, q_sg_hc, q_lt_t, q_lt_f, q_le_t, q_le_f, q_eq_t, q_eq_f, ne_eq, eq_self, Bool.false_eq_true, Bool.true_eq_false, not_true_eq_false, not_false_eq_true, true_and, and_true, false_and, and_false, true_or, or_true, false_or, or_false, if_true, if_false, Int.reduceAdd, Int.reduceMul, Int.reduceSub, Int.reduceNeg, q_ln hk, q_ln hv, ld2, ld3, v1, R_86_0, R_86_5, R_86_16, R_86_26, R_86_30, R_86_33, R_86_37, R_86_40, R_86_48, R_86_55, R_86_61, R_86_71, R_86_73, R_86_82, R_86_87, R_86_96, R_86_99, R_86_104, R_86_112, R_86_120, R_86_130, R_86_142, R_86_145, R_86_149, R_86_152, R_86_154, R_86_163, R_86_167, C_86_13, C_86_52, C_86_79, C_86_93, C_86_109, C_86_117, C_86_139, C_86_146, C_86_160, C_86_164]
      · rw [en1]
        show CSt v (dT (q_g s x2 (i.toNat : Int)) (q_g s x3 (i.toNat : Int)) _) _ _
        rw [en]
        refine ⟨v2.1, v2.2.1, LfC_iff v2.2.2.1 (fun z => ?_), v2.2.2.2.1, v2.2.2.2.2.1, v2.2.2.2.2.2⟩
        show _ ↔ dLs T (q_g s x2) (q_g s x3) i.toNat z ∨ dL (q_g s x2 (i.toNat : Int)) (q_g s x3 (i.toNat : Int)) _ z
        rw [en]
      · rw [en1] at h
        have h : dAs T (q_g s x2) (q_g s x3) i.toNat ∨ dA (q_g s x2 (i.toNat : Int)) (q_g s x3 (i.toNat : Int)) (dTs T (q_g s x2) (q_g s x3) i.toNat) := h
        rw [en] at h
        by_cases hA : dA (q_g s x2 i) (q_g s x3 i) (dTs T (q_g s x2) (q_g s x3) i.toNat)
        · exact v3 hA
        · rw [v4 hA]
          exact p2 (h.elim id (fun h => absurd h hA))
      · rw [en1] at h
        have h : ¬ (dAs T (q_g s x2) (q_g s x3) i.toNat ∨ dA (q_g s x2 (i.toNat : Int)) (q_g s x3 (i.toNat : Int)) (dTs T (q_g s x2) (q_g s x3) i.toNat)) := h
        rw [en] at h
        rw [v4 (fun q => h (Or.inr q))]
        exact p3 (fun q => h (Or.inl q))
      · rw [en1]
        have := LfP_step (key := q_g s x2 (i.toNat : Int)) (v := q_g s x3 (i.toNat : Int)) p1.2.2.2.1 dp p4
        exact this
      · rw [en1]
        exact dT_old (fun _ => rfl) p1.2.2.2.1 p5) (t := u) ⟨⟨C0, fun h => h.elim, fun _ => u5, st_LfP S, st_old S h48⟩, fun _ _ _ => rfl⟩
  refine ⟨w, ?_, w2, ?_, fun k z h1 h2 => by rw [w3 k z h1, u7 k z h1, q_u_n (by omega)]⟩
  · simp (disch := first | omega | exact q_b_01 _) only [↓reduceIte, q_bk0, q_bk1, q_bk2, q_sg_b, q_b_0, q_b_n0, q_b_1, q_b_n1, q_b_T, q_b_F, q_sg_g, q_sg_sg, q_sg_xs, q_sg_id, q_gu_ne, q_gu_eq, q_g_fne, q_g_cpe, q_w_f, q_v_f, q_u_f, q_fn_f, q_cp_f, q_sg_pg, q_sg_hc, q_lt_t, q_lt_f, q_le_t, q_le_f, q_eq_t, q_eq_f, ne_eq, eq_self, Bool.false_eq_true, Bool.true_eq_false, not_true_eq_false, not_false_eq_true, true_and, and_true, false_and, and_false, true_or, or_true, false_or, or_false, if_true, if_false, Int.reduceAdd, Int.reduceMul, Int.reduceSub, Int.reduceNeg, u1, R_86_0, R_86_5, R_86_16, R_86_26, R_86_30, R_86_33, R_86_37, R_86_40, R_86_48, R_86_55, R_86_71, R_86_73, R_86_82, R_86_87, R_86_96, R_86_99, R_86_104, R_86_112, R_86_120, R_86_130, R_86_142, R_86_145, R_86_149, R_86_152, R_86_154, R_86_163, R_86_167, C_86_13, C_86_52, C_86_79, C_86_93, C_86_109, C_86_117, C_86_139, C_86_146, C_86_160, C_86_164]
    refine w1.trans ?_
    show EV (d + 6) 86 19 [.ref 241, .ref 7, .ref x2, .ref x3, .int (q_I (n)), .int (q_I (n))] [] (q_h L xs (w) O c) = _
    rw [R_86_19]
    simp (disch := first | omega | exact q_b_01 _) only [↓reduceIte, q_bk0, q_bk1, q_bk2, q_sg_b, q_b_0, q_b_n0, q_b_1, q_b_n1, q_b_T, q_b_F, q_sg_g, q_sg_sg, q_sg_xs, q_sg_id, q_gu_ne, q_gu_eq, q_g_fne, q_g_cpe, q_w_f, q_v_f, q_u_f, q_fn_f, q_cp_f, q_sg_pg, q_sg_hc, q_lt_t, q_lt_f, q_le_t, q_le_f, q_eq_t, q_eq_f, ne_eq, eq_self, Bool.false_eq_true, Bool.true_eq_false, not_true_eq_false, not_false_eq_true, true_and, and_true, false_and, and_false, true_or, or_true, false_or, or_false, if_true, if_false, Int.reduceAdd, Int.reduceMul, Int.reduceSub, Int.reduceNeg]
  · show (w 241 10).toInt = 0
    rw [w3 241 10 (by omega), u7 241 10 (by omega)]
    show q_g (q_u s 241 10 0) 241 10 = 0
    rw [q_gu_eq rfl]
    rfl
/-- what is free, ahead of the first page that is taken -/
theorem cc_makeB {x2 x3 : Nat} (H : RB m s 7) (I : Inv m b) (hb : b < 2147483646) (ha : q_g s 242 11 = 1) (ht : q_g s 242 12 = 0) {i : Int} : ∃ u, EV (d + 6) 86 61 [.ref 241, .ref 7, .ref x2, .ref x3, .int (q_I (n)), .int (q_I (i))] [] (q_h L xs s O c) = EV (d + 6) 86 130 [.ref 241, .ref 7, .ref x2, .ref x3, .int (q_I (n)), .int (q_I (i))] [] (q_h L xs (u) O c) ∧ CTk m (fr0 m) 0 u ∧ (∀ p, 0 ≤ p → p < 48 → q_g u 253 p = (SLm m p).toInt ∧ q_g u 254 p = -1) ∧ q_g u 241 11 = hc m 0 + 1 ∧ ∀ k z, ¬ (k = 241 ∧ (z = 11 ∨ z = 12 ∨ z = 13)) → ¬ (251 ≤ k ∧ k ≤ 254) → u k z = s k z := by
  have Hd := inv_hd I
  have Hl := inv_ls I (by omega)
  have Tk := inv_tk I (by omega)
  have h0 := I.1.2.2.2.1
  have ho0 := cc_ofTheHead (d := d + 4) (L := L) (xs := xs) (s := s) (O := O) (c := c) (w := 0) (by omega) (by omega)
  rw [chc_eq H Hd (by omega) (by omega)] at ho0
  have H1 : RB m (q_u s 241 11 (hc m 0 + 1)) 7 := rb_k H (fun k z h1 h2 => q_u_n (by omega))
  have ho3 := cc_ofTheHead (d := d + 4) (L := L) (xs := xs) (s := q_u s 241 11 (hc m 0 + 1)) (O := O) (c := c) (w := 3) (by omega) (by omega)
  rw [chc_eq H1 Hd (by omega) (by omega)] at ho3
  generalize hM : q_u (q_u (q_u s 241 11 (hc m 0 + 1)) 241 12 (hc m 3)) 241 13 2 = M
  have HM : RB m M 7 := rb_k H (fun k z h1 h2 => by rw [← hM, q_u_n (by omega), q_u_n (by omega), q_u_n (by omega)])
  have hF : isF 251 := Or.inl rfl
  have fr := cc_free (d := d + 2) (L := L) (xs := xs) (s := M) (O := O) (c := c) (f := 251) hF HM Hd Hl
  generalize hW : fm M 251 (FRm m) (SLm m) (cn48 (FRm m)) (LM m) = W at fr
  have fl : EV (d + 5) 351 0 [.ref 254, .int (q_I (-1)), .null, .null] [] (q_h L xs (W) O c) = some (.inl none, q_h L xs (q_v W 254 0 48 (fun _ => q_I (-1))) O c) := jj_fill ly_a254 (by decide)
  have Wn : ∀ k z, ¬ (251 ≤ k ∧ k ≤ 253) → W k z = M k z := fun k z hk => by rw [← hW, fm_c (by omega)]
  have vn : ∀ k z, k ≠ 254 → q_v W 254 0 48 (fun _ => q_I (-1)) k z = W k z := fun k z hk => by
    unfold q_v
    rw [if_neg (by omega)]
  have g12 : q_g (q_v W 254 0 48 (fun _ => q_I (-1))) 242 12 = 0 := by
    show (q_v W 254 0 48 (fun _ => q_I (-1)) 242 12).toInt = 0
    rw [vn 242 12 (by omega), Wn 242 12 (by omega), ← hM, q_u_n (by omega), q_u_n (by omega), q_u_n (by omega)]
    exact ht
  have nb := nu_ge (m := m) (p := 48) (by omega)
  have lr : 0 ≤ LM m + 1 ∧ LM m ≤ hc m 0 := by
    refine ⟨?_, ((LM_iff m (LM m)).mp (Int.le_refl _)).1⟩
    have : -1 ≤ LM m := (LM_iff m (-1)).mpr ⟨by omega, fun r r0 r1 _ => I.2.2.2 r r0 r1⟩
    omega
  have cb : 0 ≤ cn48 (FRm m) ∧ cn48 (FRm m) ≤ 48 := by
    have := q_S_bd (f := fun q => q_b (FRm m q ≠ q_I (-1))) (lo := 0) (hi := 48) (a := 0) (b := 1) (fun i _ _ => by have := q_b_01 (FRm m i ≠ q_I (-1)); omega) (by omega)
    unfold cn48
    omega
  refine ⟨q_v W 254 0 48 (fun _ => q_I (-1)), ?_, ⟨fun p p0 p1 => ?_, ?_, ?_, ?_, ?_⟩, fun p p0 p1 => ⟨?_, ?_⟩, ?_, fun k z h1 h2 => ?_⟩
  · simp (disch := first | omega | exact q_b_01 _) only [↓reduceIte, q_bk0, q_bk1, q_bk2, q_sg_b, q_b_0, q_b_n0, q_b_1, q_b_n1, q_b_T, q_b_F, q_sg_g, q_sg_sg, q_sg_xs, q_sg_id, q_gu_ne, q_gu_eq, q_g_fne, q_g_cpe, q_w_f, q_v_f, q_u_f, q_fn_f, q_cp_f, q_sg_pg, q_sg_hc, q_lt_t, q_lt_f, q_le_t, q_le_f, q_eq_t, q_eq_f, ne_eq, eq_self, Bool.false_eq_true, Bool.true_eq_false, not_true_eq_false, not_false_eq_true, true_and, and_true, false_and, and_false, true_or, or_true, false_or, or_false, if_true, if_false, Int.reduceAdd, Int.reduceMul, Int.reduceSub, Int.reduceNeg, ha, ho0, ho3, hM, fr, fl, g12, R_86_0, R_86_5, R_86_16, R_86_26, R_86_30, R_86_33, R_86_37, R_86_40, R_86_48, R_86_55, R_86_61, R_86_71, R_86_73, R_86_82, R_86_87, R_86_96, R_86_99, R_86_104, R_86_112, R_86_120, R_86_142, R_86_145, R_86_149, R_86_152, R_86_154, R_86_163, R_86_167, C_86_13, C_86_52, C_86_79, C_86_93, C_86_109, C_86_117, C_86_139, C_86_146, C_86_160, C_86_164]
  · rw [q_v_ne (by omega), if_neg (fun q => by have := nu_ge (m := m) p0; omega), ← hW]
    exact fm_g1 p0 p1
  · rw [q_v_ne (by omega), ← hW, fm_s, q_sg_id (by omega) (by omega)]
  · rw [q_v_ne (by omega)]
    show (W 241 12).toInt = _
    rw [Wn 241 12 (by omega)]
    show q_g M 241 12 = _
    rw [← hM, q_gu_ne (by omega), q_gu_eq rfl, q_sg_id (by omega) (by omega), hgh_0]
  · have e : q_g (q_v W 254 0 48 (fun _ => q_I (-1))) 241 13 = 2 := by
      rw [q_v_ne (by omega)]
      show (W 241 13).toInt = _
      rw [Wn 241 13 (by omega)]
      show q_g M 241 13 = _
      rw [← hM, q_gu_eq rfl]
      rfl
    rw [e]
    exact ⟨by omega, by omega, fun p p0 p1 hu => by have := Tk.1 p hu; omega⟩
  · rw [q_v_ne (by omega), ← hW, fm_d, q_sg_id (by omega) (by omega)]
    have e : cn48 (FRm m) = q_S (fun p => q_b (fr0 m p ≠ -1)) 0 48 := by
      unfold cn48
      refine q_S_c (fun i _ _ => q_b_c ?_)
      unfold fr0
      constructor
      · exact fun h q => h (Int32.toInt_inj.mp (by rw [q]; rfl))
      · exact fun h q => h (by rw [q]; rfl)
    rw [e]
    split <;> omega
  · rw [q_v_ne (by omega), ← hW]
    exact fm_g2 p0 p1
  · rw [q_v_g0 _ _ _ p0 p1]
    rfl
  · rw [q_v_ne (by omega)]
    show (W 241 11).toInt = _
    rw [Wn 241 11 (by omega)]
    show q_g M 241 11 = _
    rw [← hM, q_gu_ne (by omega), q_gu_ne (by omega), q_gu_eq rfl, q_sg_id (by omega) (by omega)]
  · rw [vn k z (by omega), Wn k z (by omega), ← hM, q_u_n (by omega), q_u_n (by omega), q_u_n (by omega)]
end CMK
