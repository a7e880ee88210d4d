/-! THE CLASS: what a put makes of the draft, all levels -/
noncomputable def FWy (key : Int) : Tr → Prop := tr_rec (fun p u0_ u1_ u2_ => p = -1) (fun p n a c r_  => p = -1 ∧ r_ (slt n a key))
theorem FWy_e1 (key : Int) (p u0_ : Int) (u1_ : Int → Int) (u2_ : Int → Int) : FWy key (.lf p u0_ u1_ u2_) = (p = -1) := rfl
theorem FWy_e2 (key : Int) (p n : Int) (a : Int → Int) (c : Int → Tr) : FWy key (.br p n a c) = (p = -1 ∧ FWy key (c (slt n a key))) := rfl
/-- the leaf is changed already -/
noncomputable def LC (D0 : Ar) (N0 key : Int) (g : Int → (Int → Int) → (Int → Int) → Tr) (D : Ar) (N : Int) : Tr → Int → Prop := tr_rec (fun p n a b x => Chd D0 N0 (.lf p n a b) x D N (g n a b) x) (fun u0_ n a c r_ x => r_ (slt n a key) (D0.B x (slt n a key)))
theorem LC_e1 (D0 : Ar) (N0 key : Int) (g : Int → (Int → Int) → (Int → Int) → Tr) (D : Ar) (N : Int) (p n : Int) (a : Int → Int) (b : Int → Int) (x : Int) : LC D0 N0 key g D N (.lf p n a b) x = (Chd D0 N0 (.lf p n a b) x D N (g n a b) x) := rfl
theorem LC_e2 (D0 : Ar) (N0 key : Int) (g : Int → (Int → Int) → (Int → Int) → Tr) (D : Ar) (N : Int) (u0_ n : Int) (a : Int → Int) (c : Int → Tr) (x : Int) : LC D0 N0 key g D N (.br u0_ n a c) x = (LC D0 N0 key g D N (c (slt n a key)) (D0.B x (slt n a key))) := rfl
section CPL
variable {d L : Nat} {xs : Nat → Int32} {s s0 s1 u : Nat → Int → Int32} {O : Nat → Int64} {c : Bool × Nat × Nat} {D0 : Ar} {N0 x y j l p n key : Int} {g : Int → (Int → Int) → (Int → Int) → Tr}
theorem FWy_ren : ∀ t, FWy key (ren key t) := by
  intro t
  induction t using Tr_rc with
  | lf p n a b =>
    rfl
  | br p n a cc ih =>
    try dsimp only [FWy_e1, FWy_e2, ren_e1, ren_e2] at *
    refine ⟨rfl, ?_⟩
    rw [up_eq rfl]
    exact ih _
theorem chg_ne (hg : ∀ n a b, 1 ≤ n → n ≤ 4 → 1 ≤ tsz (g n a b)) : ∀ {t : Tr} {h : Nat} {lo hi : Int}, Okt t h lo hi → 1 ≤ tsz (chg key g t) := by
  intro t
  induction t using Tr_rc with
  | lf p n a b =>
    try dsimp only [Okt_e1, Okt_e2] at *
    exact fun o => hg n a b o.2.1 o.2.2.1
  | br p n a cc ih =>
    try dsimp only [Okt_e1, Okt_e2] at *
    rintro h lo hi ⟨h', e, n0, n1, r⟩
    obtain ⟨s0, s1, s2, s3⟩ := slt_ok (n := n) (a := a) (key := key) n0
    have := ih _ (r _ s0 s1).2.2
    try simp only [chg_e1, chg_e2]
    unfold mend
    rw [if_neg (by omega)]
    split
    · show 1 ≤ n + 1
      omega
    · exact n0
theorem cc_putL {v lf kk hs : Int} (hg : ∀ n a b, 1 ≤ n → n ≤ 4 → 1 ≤ tsz (g n a b)) (N48 : 48 ≤ q_g s 242 9) : ∀ {t : Tr} {h : Nat} {lo hi : Int} (l x : Int), Okt t h lo hi → FWy key t → Sub D0 N0 t x → (∀ i : Nat, i ≤ h → q_g s 249 (l + i) = wyn D0 key t x i) → (∀ i : Nat, i < h → q_g s 250 (l + i) = sln key t i) → LC D0 N0 key g (dC s) (q_g s 242 9) t x → q_g s 242 9 + mdz key g t ≤ 176 → 0 ≤ l → l + h < 40 → ∃ u, EV (d + 4) 45 125 [.ref 242, .int (q_I (key)), .int (q_I (v)), .int (q_I (lf)), .int (q_I (kk)), .int (q_I (hs)), .int (q_I (l + h))] [] (q_h L xs s O c) = EV (d + 4) 45 125 [.ref 242, .int (q_I (key)), .int (q_I (v)), .int (q_I (lf)), .int (q_I (kk)), .int (q_I (hs)), .int (q_I (l))] [] (q_h L xs (u) O c) ∧ Chd D0 N0 t x (dC u) (q_g u 242 9) (chg key g t) x ∧ q_g u 242 9 = q_g s 242 9 + mdz key g t ∧ FD s u := by
  intro t
  induction t using Tr_rc with
  | lf p n a b =>
    try dsimp only [Okt_e1, Okt_e2, FWy_e1, FWy_e2, LC_e1, LC_e2] at *
    rintro h lo hi l x ⟨e, n0, n1, o⟩ hF S hw hs' hL hN l0 l1
    subst e
    try dsimp only [Okt_e1, Okt_e2, FWy_e1, FWy_e2, LC_e1, LC_e2]
    refine ⟨s, by simp, hL, ?_, FD_refl⟩
    show _ = q_g s 242 9 + 0
    omega
  | br p n a cc ih =>
    try dsimp only [Okt_e1, Okt_e2, FWy_e1, FWy_e2, LC_e1, LC_e2] at *
    rintro h lo hi l x ⟨h', e, n0, n1, r⟩ ⟨hp, hF⟩ S hw hs' hL hN l0 l1
    subst e
    subst hp
    obtain ⟨s0', s1', s2, s3⟩ := slt_ok (n := n) (a := a) (key := key) n0
    have w0 := hw 0 (by omega)
    have w1 := hw 1 (by omega)
    have v0 := hs' 0 (by omega)
    have w0' : q_g s 249 (l + ((0 : Nat) : Int)) = x := w0
    have w1' : q_g s 249 (l + ((1 : Nat) : Int)) = D0.B x (slt n a key) := by
      refine w1.trans ?_
      show wyn D0 key (cc (slt n a key)) (D0.B x (slt n a key)) 0 = _
      exact wyn_0 _ _ _ _
    have v0' : q_g s 250 (l + ((0 : Nat) : Int)) = slt n a key := v0
    have eN : mdz key g (.br (-1) n a cc) = mdz key g (cc (slt n a key)) + (if tsz (chg key g (cc (slt n a key))) = 5 then 1 else 0) := rfl
    have m0 := mdz_0 (key := key) (g := g) (cc (slt n a key))
    rw [eN] at hN
    have q := ih (slt n a key) (l + 1) (D0.B x (slt n a key)) (r _ s0' s1').2.2 hF (Sub_kid S s0' s1') (fun i hi => by
      have := hw (i + 1) (by omega)
      rw [show l + ((i + 1 : Nat) : Int) = l + 1 + (i : Int) by omega] at this
      exact this) (fun i hi => by
      have := hs' (i + 1) (by omega)
      rw [show l + ((i + 1 : Nat) : Int) = l + 1 + (i : Int) by omega] at this
      exact this) hL (by split at hN <;> omega) (by omega) (by omega)
    obtain ⟨u, u1, u2, u3, u4⟩ := q
    have ne := chg_ne (key := key) hg (r _ s0' s1').2.2
    have ec : chg key g (.br (-1) n a cc) = mend (-1) n a cc (slt n a key) (chg key g (cc (slt n a key))) := rfl
    rw [ec, eN]
    generalize slt n a key = jj at *
    obtain ⟨z, z1, z2, z3, z4⟩ := cc_stepP (d := d) (L := L) (xs := xs) (O := O) (c := c) (s := u) (l := l + 1) S s0' s1' (by omega) u2 ne (by omega) (by split at hN <;> omega) (fun h5 => by rw [if_pos h5] at hN; omega) (by omega) (by omega) (by rw [FD_g u4 (by omega) (by omega)]; exact w1') (by rw [FD_g u4 (by omega) (by omega), show l + 1 - 1 = l + ((0 : Nat) : Int) by omega]; exact w0') (by rw [FD_g u4 (by omega) (by omega), show l + 1 - 1 = l + ((0 : Nat) : Int) by omega]; exact v0')
    try dsimp only [Okt_e1, Okt_e2, FWy_e1, FWy_e2, LC_e1, LC_e2]
    refine ⟨z, ?_, z2, by rw [z3, u3]; omega, FD_trans u4 z4⟩
    rw [show l + ((h' + 1 : Nat) : Int) = l + 1 + (h' : Int) by omega, u1, R_45_125]
    simp (disch := first | omega | exact q_b_01 _) only [↓reduceIte, q_bk0, q_bk1, q_bk2, q_sg_b, q_b_0, q_b_n0, q_b_1, q_b_n1, q_b_T, q_b_F, q_sg_g, q_sg_sg, q_sg_xs, q_sg_id, q_gu_ne, q_gu_eq, q_g_fne, q_g_cpe, q_w_f, q_v_f, q_u_f, q_fn_f, q_cp_f, q_sg_pg, q_sg_hc, q_lt_t, q_lt_f, q_le_t, q_le_f, q_eq_t, q_eq_f, ne_eq, eq_self, Bool.false_eq_true, Bool.true_eq_false, not_true_eq_false, not_false_eq_true, true_and, and_true, false_and, and_false, true_or, or_true, false_or, or_false, if_true, if_false, Int.reduceAdd, Int.reduceMul, Int.reduceSub, Int.reduceNeg, z1, R_45_0, R_45_8, R_45_13, R_45_19, R_45_22, R_45_33, R_45_34, R_45_39, R_45_46, R_45_56, R_45_63, R_45_68, R_45_80, R_45_84, R_45_85, R_45_89, R_45_94, R_45_107, R_45_108, R_45_117, R_45_130, R_45_136, R_45_139, R_45_142, C_45_16, C_45_30, C_45_36, C_45_43, C_45_53, C_45_86, C_45_114, C_45_133]
    rw [show l + 1 + -1 = l by omega]
end CPL
