/-! A PLAN is made: the class's, in one; the reference's changes -/
section CM3
variable {d L : Nat} {xs : Nat → Int32} {s : Nat → Int → Int32} {O : Nat → Int64} {c : Bool × Nat × Nat} {m : Int → Int} {b n : Int} {Lv : Int → Prop} {T : Option Tr} {x2 x3 n2 n3 : Nat}
theorem cc_make (H : RB m s 7) (I : Inv m b) (hb : b < 2147483646) (S : St0 m T Lv) (D : Dsk m Lv) (hk : ly_A x2 n2 .int) (hv : ly_A x3 n3 .int) (k2 : n2 < 2147483648) (k3 : n3 < 2147483648) (o2 : ¬ (241 ≤ x2 ∧ x2 ≤ 260)) (o3 : ¬ (241 ≤ x3 ∧ x3 ≤ 260)) (n0 : 0 ≤ n) (n12 : n ≤ 12) (l2 : n ≤ n2) (l3 : n ≤ n3) (hK : ∀ i, 0 ≤ i → i < n → 0 ≤ q_g s x2 i ∧ q_g s x2 i < 100 ∧ 0 ≤ q_g s x3 i ∧ q_g s x3 i ≤ 100) :
    PTo (dTs T (q_g s x2) (q_g s x3) n.toNat) ∧ LfP Lv (dTs T (q_g s x2) (q_g s x3) n.toNat) (dLs T (q_g s x2) (q_g s x3) n.toNat) ∧ OldO (dk m) (dTs T (q_g s x2) (q_g s x3) n.toNat) ∧ DPo (dTs T (q_g s x2) (q_g s x3) n.toNat) ∧
    (¬ dAs T (q_g s x2) (q_g s x3) n.toNat → ∃ u, EV (d + 15) 86 0 [.ref 241, .ref 7, .ref x2, .ref x3, .int (q_I (n)), .null] [] (q_h L xs s O c) = some (.inl (some (.int (q_I (0)))), q_h L xs (u) O c) ∧ q_g u 241 10 = 0 ∧ PlnF s u) ∧
    (dAs T (q_g s x2) (q_g s x3) n.toNat → ∀ sc, ScI m (frN m (dLs T (q_g s x2) (q_g s x3) n.toNat)) (cNo (dTs T (q_g s x2) (q_g s x3) n.toNat)) sc →
      (cNo (dTs T (q_g s x2) (q_g s x3) n.toNat) + sc ≤ cap m → ∃ u, EV (d + 15) 86 0 [.ref 241, .ref 7, .ref x2, .ref x3, .int (q_I (n)), .null] [] (q_h L xs s O c) = some (.inl (some (.int (q_I (cNo (dTs T (q_g s x2) (q_g s x3) n.toNat) + sc + 1)))), q_h L xs (u) O c) ∧ PlanC m (dTs T (q_g s x2) (q_g s x3) n.toNat) (dLs T (q_g s x2) (q_g s x3) n.toNat) sc u ∧ PlnF s u) ∧
      (cap m < cNo (dTs T (q_g s x2) (q_g s x3) n.toNat) + sc → ∃ u, EV (d + 15) 86 0 [.ref 241, .ref 7, .ref x2, .ref x3, .int (q_I (n)), .null] [] (q_h L xs s O c) = some (.inl (some (.int (q_I (-1)))), q_h L xs (u) O c) ∧ PlnF s u)) := by
  obtain ⟨u, u1, ⟨u2, u3, u4, u5, u6⟩, u7, u8⟩ := cc_makeA (d := d + 9) (L := L) (xs := xs) (s := s) (O := O) (c := c) (x2 := x2) (x3 := x3) H I (by omega) S D hk hv k2 k3 o2 o3 n0 n12 l2 l3 hK
  have Hu : RB m u 7 := rb_k H (fun k z h1 h2 => u8 k z (by omega) (by omega))
  have fu : PlnF s u := fun k z hk => u8 k z (by omega) (by omega)
  refine ⟨u2.2.2.2.1, u5, u6, DPo_of u2.2.2.2.2.2.2, fun hA => ⟨u, ?_, u7, fu⟩, fun hA sc Sc => ?_⟩
  · have ha := u4 hA
    rw [u1]
    simp (disch := first | omega | exact q_b_01 _) only [↓reduceIte, q_bk0, q_bk1, q_bk2, q_sg_b, q_b_0, q_b_n0, q_b_1, q_b_n1, q_b_T, q_b_F, q_sg_g, q_sg_sg, q_sg_xs, q_sg_id, q_gu_ne, q_gu_eq, q_g_fne, q_g_cpe, q_w_f, q_v_f, q_u_f, q_fn_f, q_cp_f, q_sg_pg, q_sg_hc, q_lt_t, q_lt_f, q_le_t, q_le_f, q_eq_t, q_eq_f, ne_eq, eq_self, Bool.false_eq_true, Bool.true_eq_false, not_true_eq_false, not_false_eq_true, true_and, and_true, false_and, and_false, true_or, or_true, false_or, or_false, if_true, if_false, Int.reduceAdd, Int.reduceMul, Int.reduceSub, Int.reduceNeg, ha, R_86_0, R_86_5, R_86_16, R_86_26, R_86_30, R_86_33, R_86_37, R_86_40, R_86_48, R_86_55, R_86_61, R_86_71, R_86_73, R_86_82, R_86_87, R_86_96, R_86_99, R_86_104, R_86_112, R_86_120, R_86_130, R_86_142, R_86_145, R_86_149, R_86_152, R_86_154, R_86_163, R_86_167, C_86_13, C_86_52, C_86_79, C_86_93, C_86_109, C_86_117, C_86_139, C_86_146, C_86_160, C_86_164]
  · obtain ⟨w, w1, w2, w3, w4, w5⟩ := cc_makeB (d := d + 9) (L := L) (xs := xs) (s := u) (O := O) (c := c) (n := n) (i := n) (x2 := x2) (x3 := x3) Hu I hb (u3 hA) u2.2.1
    have gw : ∀ k z, ¬ (k = 241 ∧ (z = 11 ∨ z = 12 ∨ z = 13)) → ¬ (251 ≤ k ∧ k ≤ 254) → q_g w k z = q_g u k z := fun k z a1 a2 => by
      show (w k z).toInt = _
      rw [w5 k z a1 a2]
      rfl
    have eD : dC w = dC u := dC_c (fun k h1 h2 => funext fun z => w5 k z (by omega) (by omega))
    have hL := lf_i I (by omega) D (Lf := dLs T (q_g s x2) (q_g s x3) n.toNat) (fun p hp => (u5 p).1.mpr (Or.inr hp))
    have e9 := gw 242 9 (by omega) (by omega)
    have e10 := gw 242 10 (by omega) (by omega)
    have p0 := pot_0 0 (by omega) (dTs T (q_g s x2) (q_g s x3) n.toNat)
    have b9 := u2.2.2.2.2.1
    obtain ⟨r1, r2⟩ := cc_makeC (d := d) (L := L) (xs := xs) (s := w) (O := O) (c := c) (n := n) (i := n) (x2 := x2) (x3 := x3) (T := dTs T (q_g s x2) (q_g s x3) n.toNat) (Lf := dLs T (q_g s x2) (q_g s x3) n.toNat) (rb_k Hu (fun k z h1 h2 => w5 k z (by omega) (by omega))) I hb hL w2 w3 w4 (by rw [gw 241 10 (by omega) (by omega)]; exact u7) (LfC_sm u2.2.2.1 (fun z _ => ⟨w5 247 z (by omega) (by omega), w5 248 z (by omega) (by omega)⟩)) u2.2.2.2.1 (fun h => by rw [e10]; exact u2.2.2.2.2.2.1 h) (fun t ht => by rw [eD, e9, e10]; exact u2.2.2.2.2.2.2 t ht) (by omega) Sc
    have pre : EV (d + 15) 86 0 [.ref 241, .ref 7, .ref x2, .ref x3, .int (q_I (n)), .null] [] (q_h L xs s O c) = EV (d + 15) 86 130 [.ref 241, .ref 7, .ref x2, .ref x3, .int (q_I (n)), .int (q_I (n))] [] (q_h L xs (w) O c) := u1.trans w1
    have fw : ∀ v, PlnF w v → PlnF s v := fun v hv k z hk => by rw [hv k z hk, w5 k z (by omega) (by omega), fu k z hk]
    exact ⟨fun hk => by obtain ⟨v, v1, v2, v3⟩ := r1 hk; exact ⟨v, pre.trans v1, v2, fw v v3⟩, fun hk => by obtain ⟨v, v1, v2⟩ := r2 hk; exact ⟨v, pre.trans v1, fw v v2⟩⟩
end CM3
/-! the reference -/
noncomputable def MkM (T : Option Tr) (ks vs : Int → Int) (i : Int) (t : Nat → Int → Int32) : Prop :=
  MSt t (dTs T ks vs i.toNat) (dLs T ks vs i.toNat) i ∧ (dAs T ks vs i.toNat → q_g t 285 29 = 1) ∧ (¬ dAs T ks vs i.toNat → q_g t 285 29 = 0)
noncomputable def MpF (s u : Nat → Int → Int32) : Prop := ∀ k z, ¬ (294 ≤ k ∧ k ≤ 306) → ¬ (k = 285 ∧ (z = 25 ∨ z = 26 ∨ z = 29 ∨ z = 34 ∨ z = 35 ∨ z = 36 ∨ z = 39)) → u k z = s k z
section MPS
variable {d L : Nat} {xs : Nat → Int32} {s : Nat → Int → Int32} {O : Nat → Int64} {c : Bool × Nat × Nat} {m : Int → Int} {b n : Int} {Lv : Int → Prop} {T : Option Tr}
theorem mm_plansA (em : q_g s 286 = m) (I : Inv m b) (S : St0 m T Lv) (hn : q_g s 285 19 = n) (n0 : 0 ≤ n) (n12 : n ≤ 12) (hK : ∀ i, 0 ≤ i → i < n → 0 ≤ q_g s 292 i ∧ q_g s 292 i < 100 ∧ 0 ≤ q_g s 293 i ∧ q_g s 293 i ≤ 100) : ∃ u, EV (d + 5) 278 0 [.ref 285, .null] [] (q_h L xs s O c) = EV (d + 5) 278 46 [.ref 285, .int (q_I (n))] [] (q_h L xs (u) O c) ∧ MkM T (q_g s 292) (q_g s 293) n u ∧ q_g u 285 36 = 0 ∧ q_g u 285 39 = 0 ∧ (∀ p, 0 ≤ p → p < 48 → q_g u 302 p = 0) ∧ MpF s u := by
  have h48 := I.1.2.2.2.1.2.2.2
  obtain ⟨u, u1, u2, u3, u4, u5, u6⟩ := mm_loads (d := d + 1) (L := L) (xs := xs) (s := s) (O := O) (c := c) em
  generalize hM : q_u (q_u u 285 36 0) 285 39 0 = M
  have Mg : ∀ k z, ¬ (k = 285 ∧ (z = 36 ∨ z = 39)) → q_g M k z = q_g u k z := fun k z hk => by rw [← hM, q_gu_ne (by omega), q_gu_ne (by omega)]
  have Mk : ∀ k z, ¬ (k = 285 ∧ (z = 36 ∨ z = 39)) → M k z = u k z := fun k z hk => by rw [← hM, q_u_n (by omega), q_u_n (by omega)]
  have C0 : MSt M T (fun _ => False) 0 := by
    have pt := pot_st S.1 (st_cnt S h48)
    refine ⟨by rw [Mg 285 25 (by omega)]; omega, fun z z0 z1 => ?_, S.1, by rw [Mg 285 25 (by omega)]; omega, fun e => by rw [Mg 285 26 (by omega), u4]; exact (S.2.1 e).1, fun t ht => ?_⟩
    · rw [Mg 301 z (by omega)]
      have := (u2 z z0 z1).2.2.1
      exact ⟨Or.inl this, fun q => by omega, fun q => q.elim⟩
    · obtain ⟨s1, s2⟩ := S.2.2 t ht
      rw [Mg 285 25 (by omega), Mg 285 26 (by omega), u3, u4]
      refine Sub_frn s1 h48 (fun y hy => ?_)
      have yr := s1.2.2 y hy
      obtain ⟨a1, a2, a3, a4, a5, a6⟩ := u2 y (by omega) (by omega)
      have y6 : pg m y 1 ≤ 6 := (I.1.2.1 y (by omega) (by omega)).2.2.1
      refine ⟨?_, ?_, ?_, fun k k0 k1 => ?_⟩
      · show q_g M 294 y = _
        rw [Mg 294 y (by omega)]
        exact a1
      · show q_g M 295 y = _
        rw [Mg 295 y (by omega)]
        exact a2
      · show (if y < 48 then (0 : Int) else 1) = 0
        rw [if_pos (by omega)]
      · have k1 : k < pg m y 1 := k1
        obtain ⟨b1, b2⟩ := a6 k k0 (by omega)
        refine ⟨?_, ?_⟩
        · show q_g M 296 (6 * y + k) = _
          rw [Mg 296 _ (by omega)]
          exact b1
        · show q_g M 297 (6 * y + k) = _
          rw [Mg 297 _ (by omega)]
          exact b2
  obtain ⟨w, w1, w2, w3⟩ := q_for (fun i t => EV (d + 5) 278 16 [.ref 285, .int (q_I (i))] [] (q_h L xs (t) O c)) (fun i t => MkM T (q_g s 292) (q_g s 293) i t ∧ FMc M t) (lo := 0) (hi := n) n0 (fun i t i0 i1 P => by
      obtain ⟨⟨p1, p2, p3⟩, p6⟩ := P
      have g : ∀ k z, ¬ (294 ≤ k ∧ k ≤ 303) → k ≠ 285 ∨ z = 19 → q_g t k z = q_g s k z := fun k z hk h2 => by
        show (t k z).toInt = _
        rw [p6 k z (by omega) (by omega), Mk k z (by omega), u6 k z (by omega) (by omega) (by omega)]
        rfl
      have e2 := g 292 i (by omega) (by omega)
      have e3 := g 293 i (by omega) (by omega)
      have e19 : q_g t 285 19 = n := by rw [g 285 19 (by omega) (by omega), hn]
      obtain ⟨q1, q2, q3, q4⟩ := hK i i0 i1
      have en : ((i.toNat : Nat) : Int) = i := by omega
      have en1 : (i + 1).toNat = i.toNat + 1 := by omega
      obtain ⟨v, v1, v2, v3, v4, v5⟩ := mm_changes (d := d) (L := L) (xs := xs) (O := O) (c := c) (key := q_g s 292 i) (v := q_g s 293 i) p1 i0 (by omega) q1 q2 q3 q4
      refine ⟨v, ?_, ⟨?_, fun h => ?_, fun h => ?_⟩, fun k z h1 h2 => by rw [v5 k z h1 h2, p6 k z h1 h2]⟩
      · show EV (d + 5) 278 16 [.ref 285, .int (q_I (i))] [] (q_h L xs (t) O c) = EV (d + 5) 278 16 [.ref 285, .int (q_I (i + 1))] [] (q_h L xs (v) O c)
        rw [R_278_16 (x1 := i)]
        simp (disch := first | omega | exact q_b_01 _) only [↓reduceIte, q_bk0, q_bk1, q_bk2, q_sg_b, q_b_0, q_b_n0, q_b_1, q_b_n1, q_b_T, q_b_F, q_sg_g, q_sg_sg, q_sg_xs, q_sg_id, q_gu_ne, q_gu_eq, q_g_fne, q_g_cpe, q_w_f, q_v_f, q_u_f, q_fn_f, q_cp_f, q_sg_pg, q_sg_hc, q_lt_t, q_lt_f, q_le_t, q_le_f, q_eq_t, q_eq_f, ne_eq, eq_self, Bool.false_eq_true, Bool.true_eq_false, not_true_eq_false, not_false_eq_true, true_and, and_true, false_and, and_false, true_or, or_true, false_or, or_false, if_true, if_false, Int.reduceAdd, Int.reduceMul, Int.reduceSub, Int.reduceNeg, e19, e2, e3, v1, R_278_0, R_278_4, R_278_9, R_278_14, R_278_24, R_278_31, R_278_40, R_278_53, R_278_54, R_278_58, R_278_64, R_278_69, R_278_72, R_278_80, R_278_88, R_278_93, R_278_98, R_278_105, R_278_106, R_278_114, R_278_122, R_278_124, R_278_130, R_278_136, R_278_139, R_278_142, R_278_152, R_278_162, R_278_168, R_278_173, R_278_185, R_278_195, R_278_207, R_278_219, R_278_231, R_278_245, R_278_248, R_278_268, R_278_269, R_278_288, R_278_292, R_278_298, R_278_299, R_278_316, C_278_1, C_278_37, C_278_55, C_278_61, C_278_66, C_278_85, C_278_90, C_278_95, C_278_119, C_278_170, C_278_242, C_278_265]
      · rw [en1]
        show MSt v (dT (q_g s 292 (i.toNat : Int)) (q_g s 293 (i.toNat : Int)) _) _ _
        rw [en]
        refine ⟨v2.1, LfM_iff v2.2.1 (fun z => ?_), v2.2.2.1, v2.2.2.2.1, v2.2.2.2.2⟩
        show _ ↔ dLs T (q_g s 292) (q_g s 293) i.toNat z ∨ dL (q_g s 292 (i.toNat : Int)) (q_g s 293 (i.toNat : Int)) _ z
        rw [en]
      · rw [en1] at h
        have h : dAs T (q_g s 292) (q_g s 293) i.toNat ∨ dA (q_g s 292 (i.toNat : Int)) (q_g s 293 (i.toNat : Int)) (dTs T (q_g s 292) (q_g s 293) i.toNat) := h
        rw [en] at h
        by_cases hA : dA (q_g s 292 i) (q_g s 293 i) (dTs T (q_g s 292) (q_g s 293) i.toNat)
        · exact v3 hA
        · rw [v4 hA]
          exact p2 (h.elim id (fun h => absurd h hA))
      · rw [en1] at h
        have h : ¬ (dAs T (q_g s 292) (q_g s 293) i.toNat ∨ dA (q_g s 292 (i.toNat : Int)) (q_g s 293 (i.toNat : Int)) (dTs T (q_g s 292) (q_g s 293) i.toNat)) := h
        rw [en] at h
        rw [v4 (fun q => h (Or.inr q))]
        exact p3 (fun q => h (Or.inl q))) (t := M) ⟨⟨C0, fun h => h.elim, fun _ => by rw [Mg 285 29 (by omega)]; exact u5⟩, fun _ _ _ _ => rfl⟩
  have gw : ∀ k z, ¬ (294 ≤ k ∧ k ≤ 301) → ¬ (k = 285 ∧ (z = 25 ∨ z = 26 ∨ z = 29)) → q_g w k z = q_g M k z := fun k z a1 a2 => by
    show (w k z).toInt = _
    rw [w3 k z a1 a2]
    rfl
  have e19 : q_g w 285 19 = n := by
    rw [gw 285 19 (by omega) (by omega), Mg 285 19 (by omega)]
    show (u 285 19).toInt = n
    rw [u6 285 19 (by omega) (by omega) (by omega)]
    exact hn
  refine ⟨w, ?_, w2, ?_, ?_, fun p p0 p1 => ?_, fun k z h1 h2 => by rw [w3 k z (by omega) (by omega), Mk k z (by omega), u6 k z (by omega) (by omega) (by omega)]⟩
  · simp (disch := first | omega | exact q_b_01 _) only [↓reduceIte, q_bk0, q_bk1, q_bk2, q_sg_b, q_b_0, q_b_n0, q_b_1, q_b_n1, q_b_T, q_b_F, q_sg_g, q_sg_sg, q_sg_xs, q_sg_id, q_gu_ne, q_gu_eq, q_g_fne, q_g_cpe, q_w_f, q_v_f, q_u_f, q_fn_f, q_cp_f, q_sg_pg, q_sg_hc, q_lt_t, q_lt_f, q_le_t, q_le_f, q_eq_t, q_eq_f, ne_eq, eq_self, Bool.false_eq_true, Bool.true_eq_false, not_true_eq_false, not_false_eq_true, true_and, and_true, false_and, and_false, true_or, or_true, false_or, or_false, if_true, if_false, Int.reduceAdd, Int.reduceMul, Int.reduceSub, Int.reduceNeg, u1, hM, R_278_0, R_278_4, R_278_9, R_278_14, R_278_24, R_278_31, R_278_40, R_278_53, R_278_54, R_278_58, R_278_64, R_278_69, R_278_72, R_278_80, R_278_88, R_278_93, R_278_98, R_278_105, R_278_106, R_278_114, R_278_122, R_278_124, R_278_130, R_278_136, R_278_139, R_278_142, R_278_152, R_278_162, R_278_168, R_278_173, R_278_185, R_278_195, R_278_207, R_278_219, R_278_231, R_278_245, R_278_248, R_278_268, R_278_269, R_278_288, R_278_292, R_278_298, R_278_299, R_278_316, C_278_1, C_278_37, C_278_55, C_278_61, C_278_66, C_278_85, C_278_90, C_278_95, C_278_119, C_278_170, C_278_242, C_278_265]
    refine w1.trans ?_
    show EV (d + 5) 278 16 [.ref 285, .int (q_I (n))] [] (q_h L xs (w) O c) = _
    rw [R_278_16]
    simp (disch := first | omega | exact q_b_01 _) only [↓reduceIte, q_bk0, q_bk1, q_bk2, q_sg_b, q_b_0, q_b_n0, q_b_1, q_b_n1, q_b_T, q_b_F, q_sg_g, q_sg_sg, q_sg_xs, q_sg_id, q_gu_ne, q_gu_eq, q_g_fne, q_g_cpe, q_w_f, q_v_f, q_u_f, q_fn_f, q_cp_f, q_sg_pg, q_sg_hc, q_lt_t, q_lt_f, q_le_t, q_le_f, q_eq_t, q_eq_f, ne_eq, eq_self, Bool.false_eq_true, Bool.true_eq_false, not_true_eq_false, not_false_eq_true, true_and, and_true, false_and, and_false, true_or, or_true, false_or, or_false, if_true, if_false, Int.reduceAdd, Int.reduceMul, Int.reduceSub, Int.reduceNeg, e19]
  · rw [gw 285 36 (by omega) (by omega), ← hM, q_gu_ne (by omega), q_gu_eq rfl]
    rfl
  · rw [gw 285 39 (by omega) (by omega), ← hM, q_gu_eq rfl]
    rfl
  · rw [gw 302 p (by omega) (by omega), Mg 302 p (by omega)]
    exact (u2 p p0 p1).2.2.2.1
end MPS
