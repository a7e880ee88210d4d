/-! THE CLASS: the way of a key in the draft -/
noncomputable def dC (s : Nat → Int → Int32) : Ar := ⟨q_g s 243, q_g s 244, fun x k => q_g s 245 (6 * x + k), fun x k => q_g s 246 (6 * x + k), q_g s 247⟩
/-- the nodes of the way, and the rows taken -/
noncomputable def wyn (D : Ar) (key : Int) : Tr → Int → Nat → Int := tr_rec (fun _ _ _ _ x _ => x) (fun _ n a _ r_ x i => Nat.rec (motive := fun _ => Int) x (fun i _ => r_ (slt n a key) (D.B x (slt n a key)) i) i)
theorem wyn_e1 (D : Ar) (key p n : Int) (a b : Int → Int) (x : Int) (i : Nat) : wyn D key (.lf p n a b) x i = x := rfl
theorem wyn_e0 (D : Ar) (key p n : Int) (a : Int → Int) (c : Int → Tr) (x : Int) : wyn D key (.br p n a c) x 0 = x := rfl
theorem wyn_e2 (D : Ar) (key p n : Int) (a : Int → Int) (c : Int → Tr) (x : Int) (i : Nat) : wyn D key (.br p n a c) x (i + 1) = wyn D key (c (slt n a key)) (D.B x (slt n a key)) i := rfl
noncomputable def sln (key : Int) : Tr → Nat → Int := tr_rec (fun _ _ _ _ _ => 0) (fun _ n a _ r_ i => Nat.rec (motive := fun _ => Int) (slt n a key) (fun i _ => r_ (slt n a key) i) i)
theorem sln_e1 (key p n : Int) (a b : Int → Int) (i : Nat) : sln key (.lf p n a b) i = 0 := rfl
theorem sln_e0 (key p n : Int) (a : Int → Int) (c : Int → Tr) : sln key (.br p n a c) 0 = slt n a key := rfl
theorem sln_e2 (key p n : Int) (a : Int → Int) (c : Int → Tr) (i : Nat) : sln key (.br p n a c) (i + 1) = sln key (c (slt n a key)) i := rfl
noncomputable def OW (D : Ar) (key : Int) : Tr → Int → Int → Prop := tr_rec (fun u0_ u1_ u2_ u3_ x y => y = x) (fun u0_ n a c r_ x y => y = x ∨ r_ (slt n a key) (D.B x (slt n a key)) y)
theorem OW_e1 (D : Ar) (key : Int) (u0_ u1_ : Int) (u2_ : Int → Int) (u3_ : Int → Int) (x : Int) (y : Int) : OW D key (.lf u0_ u1_ u2_ u3_) x y = (y = x) := rfl
theorem OW_e2 (D : Ar) (key : Int) (u0_ n : Int) (a : Int → Int) (c : Int → Tr) (x : Int) (y : Int) : OW D key (.br u0_ n a c) x y = (y = x ∨ OW D key (c (slt n a key)) (D.B x (slt n a key)) y) := rfl
/-- all of the way is new -/
noncomputable def ren (key : Int) : Tr → Tr := tr_rec (fun u0_ n a b => .lf (-1) n a b) (fun u0_ n a c r_  => .br (-1) n a (up c (slt n a key) (r_ (slt n a key))))
theorem ren_e1 (key : Int) (u0_ n : Int) (a : Int → Int) (b : Int → Int) : ren key (.lf u0_ n a b) = (.lf (-1) n a b) := rfl
theorem ren_e2 (key : Int) (u0_ n : Int) (a : Int → Int) (c : Int → Tr) : ren key (.br u0_ n a c) = (.br (-1) n a (up c (slt n a key) (ren key (c (slt n a key))))) := rfl
section CWY
variable {d L : Nat} {xs : Nat → Int32} {s u : Nat → Int → Int32} {O : Nat → Int64} {c : Bool × Nat × Nat} {D D' : Ar} {N key lo hi : Int} {h : Nat} {t : Tr} {x y : Int}
theorem wyn_0 (D : Ar) (key : Int) (t : Tr) (x : Int) : wyn D key t x 0 = x := by
  cases t using Tr_cs <;> rfl
theorem OW_wyn : ∀ {t : Tr} {h : Nat} {lo hi x y : Int}, Okt t h lo hi → (OW D key t x y ↔ ∃ i, i ≤ h ∧ y = wyn D key t x i) := by
  intro t
  induction t using Tr_rc with
  | lf p n a b =>
    try dsimp only [Okt_e1, Okt_e2, OW_e1, OW_e2] at *
    intro h lo hi x y o
    have e : h = 0 := o.1
    subst e
    constructor
    · exact fun e => ⟨0, Nat.le_refl _, e⟩
    · rintro ⟨i, _, e⟩
      exact e
  | br p n a cc ih =>
    try dsimp only [Okt_e1, Okt_e2, OW_e1, OW_e2] at *
    rintro h lo hi x y ⟨h', e, n0, n1, r⟩
    subst e
    obtain ⟨s0, s1, s2, s3⟩ := slt_ok (n := n) (a := a) (key := key) n0
    have := ih (slt n a key) (x := D.B x (slt n a key)) (y := y) (r _ s0 s1).2.2
    constructor
    · rintro (e | e)
      · exact ⟨0, by omega, e⟩
      · obtain ⟨i, i1, i2⟩ := this.mp e
        exact ⟨i + 1, by omega, i2⟩
    · rintro ⟨i, i1, i2⟩
      cases i with
      | zero => exact Or.inl i2
      | succ i => exact Or.inr (this.mpr ⟨i, by omega, i2⟩)
theorem OW_Wi : ∀ {t : Tr} {h : Nat} {lo hi x y : Int}, Okt t h lo hi → OW D key t x y → Wi D t x y := by
  intro t
  induction t using Tr_rc with
  | lf p n a b =>
    try dsimp only [Wi_e1, Wi_e2, Okt_e1, Okt_e2, OW_e1, OW_e2] at *
    exact fun _ e => e
  | br p n a cc ih =>
    try dsimp only [Wi_e1, Wi_e2, Okt_e1, Okt_e2, OW_e1, OW_e2] at *
    rintro h lo hi x y ⟨h', e, n0, n1, r⟩ ho
    obtain ⟨s0, s1, s2, s3⟩ := slt_ok (n := n) (a := a) (key := key) n0
    rcases ho with e | e
    · exact Or.inl e
    · exact Or.inr ⟨_, s0, s1, ih _ (r _ s0 s1).2.2 e⟩
/-- the way is marked as new where it stands -/
theorem ren_c : ∀ {t : Tr} {h : Nat} {lo hi x : Int}, Okt t h lo hi → Rep D t x → Dis D t x → (∀ y, D'.K y = D.K y ∧ D'.R y = D.R y ∧ D'.A y = D.A y ∧ D'.B y = D.B y) → (∀ y, OW D key t x y → D'.fr y = 1) → (∀ y, Wi D t x y → ¬ OW D key t x y → D'.fr y = D.fr y) → Rep D' (ren key t) x ∧ Dis D' (ren key t) x ∧ ∀ y, Wi D' (ren key t) x y ↔ Wi D t x y := by
  intro t
  induction t using Tr_rc with
  | lf p n a b =>
    try dsimp only [Rep_e1, Rep_e2, Wi_e1, Wi_e2, Dis_e1, Dis_e2, Okt_e1, Okt_e2, OW_e1, OW_e2, ren_e1, ren_e2] at *
    intro h lo hi x o hr hd e f1 f0
    obtain ⟨h1, h2, h3, h4, h5, h6⟩ := hr
    obtain ⟨e1, e2, e3, e4⟩ := e x
    try dsimp only [Rep_e1, Rep_e2, Wi_e1, Wi_e2, Dis_e1, Dis_e2, Okt_e1, Okt_e2, OW_e1, OW_e2, ren_e1, ren_e2]
    refine ⟨⟨e1.trans h1, e2.trans h2, h3, h4, Or.inr ⟨f1 x rfl, rfl⟩, fun k k0 k1 => ?_⟩, trivial, fun y => Iff.rfl⟩
    rw [e3, e4]
    exact h6 k k0 k1
  | br p n a cc ih =>
    try dsimp only [Rep_e1, Rep_e2, Wi_e1, Wi_e2, Dis_e1, Dis_e2, Okt_e1, Okt_e2, OW_e1, OW_e2, ren_e1, ren_e2] at *
    rintro h lo hi x ⟨h', eh, n0, n1, r⟩ hr hd e f1 f0
    obtain ⟨s0, s1, s2, s3⟩ := slt_ok (n := n) (a := a) (key := key) n0
    have q := ih (slt n a key) (x := D.B x (slt n a key)) (r _ s0 s1).2.2
    have ow := fun y => OW_Wi (D := D) (key := key) (x := D.B x (slt n a key)) (y := y) (r _ s0 s1).2.2
    have f1' : ∀ y, OW D key (cc (slt n a key)) (D.B x (slt n a key)) y → D'.fr y = 1 := fun y hy => f1 y (Or.inr hy)
    have f1x := f1 x (Or.inl rfl)
    have f0' : ∀ y, Wi D (.br p n a cc) x y → y ≠ x → ¬ OW D key (cc (slt n a key)) (D.B x (slt n a key)) y → D'.fr y = D.fr y := fun y hy h1 h2 => f0 y hy (fun z => z.elim h1 h2)
    try simp only [ren_e1, ren_e2]
    generalize slt n a key = j at *
    obtain ⟨h1, h2, h3, h4, h5, h6⟩ := hr
    obtain ⟨e1, e2, e3, e4⟩ := e x
    obtain ⟨d1, d2, d3⟩ := hd j s0 s1
    obtain ⟨q1, q2, q3⟩ := q (h6 j s0 s1).2 d1 e f1' (fun y hy hn => f0' y (Or.inr ⟨j, s0, s1, hy⟩) (fun z => by
      subst z
      exact d2 hy) hn)
    have sib : ∀ k, 0 ≤ k → k < n → k ≠ j → Rep D' (cc k) (D.B x k) ∧ (∀ y, Wi D' (cc k) (D.B x k) y ↔ Wi D (cc k) (D.B x k) y) ∧ Dis D' (cc k) (D.B x k) := fun k k0 k1 kj => by
      obtain ⟨g1, g2, g3⟩ := hd k k0 k1
      obtain ⟨V1, V2, V3⟩ := Rep_fr (D' := D') (h6 k k0 k1).2 (fun y hy => ⟨(e y).1, (e y).2.1, f0' y (Or.inr ⟨k, k0, k1, hy⟩) (fun z => by
        subst z
        exact g2 hy) (fun z => g3 j s0 s1 kj y hy (ow y z)), fun i _ _ => by rw [(e y).2.2.1, (e y).2.2.2]; exact ⟨rfl, rfl⟩⟩)
      exact ⟨V1, V2, V3 g1⟩
    have kid : ∀ k, 0 ≤ k → k < n → Rep D' (up cc j (ren key (cc j)) k) (D.B x k) ∧ (∀ y, Wi D' (up cc j (ren key (cc j)) k) (D.B x k) y ↔ Wi D (cc k) (D.B x k) y) ∧ Dis D' (up cc j (ren key (cc j)) k) (D.B x k) := fun k k0 k1 => by
      by_cases kj : k = j
      · subst kj
        rw [up_eq rfl]
        exact ⟨q1, q3, q2⟩
      · rw [up_ne kj]
        exact sib k k0 k1 kj
    try dsimp only [Rep_e1, Rep_e2, Wi_e1, Wi_e2, Dis_e1, Dis_e2, Okt_e1, Okt_e2, OW_e1, OW_e2, ren_e1, ren_e2]
    refine ⟨⟨e1.trans h1, e2.trans h2, h3, h4, Or.inr ⟨f1x, rfl⟩, fun k k0 k1 => ?_⟩, fun k k0 k1 => ?_, fun y => ?_⟩
    · rw [e3, e4]
      exact ⟨(h6 k k0 k1).1, (kid k k0 k1).1⟩
    · rw [e4]
      obtain ⟨g1, g2, g3⟩ := hd k k0 k1
      try dsimp only [Rep_e1, Rep_e2, Wi_e1, Wi_e2, Dis_e1, Dis_e2, Okt_e1, Okt_e2, OW_e1, OW_e2, ren_e1, ren_e2]
      refine ⟨(kid k k0 k1).2.2, fun hw => g2 (((kid k k0 k1).2.1 x).mp hw), fun k' k0' k1' hk y hy hy' => ?_⟩
      exact g3 k' k0' k1' hk y (((kid k k0 k1).2.1 y).mp hy) (((kid k' k0' k1').2.1 y).mp hy')
    · constructor
      · rintro (z | ⟨k, k0, k1, hw⟩)
        · exact Or.inl z
        · rw [e4] at hw
          exact Or.inr ⟨k, k0, k1, ((kid k k0 k1).2.1 y).mp hw⟩
      · rintro (z | ⟨k, k0, k1, hw⟩)
        · exact Or.inl z
        · refine Or.inr ⟨k, k0, k1, ?_⟩
          rw [e4]
          exact ((kid k k0 k1).2.1 y).mpr hw
theorem chg_ren {g : Int → (Int → Int) → (Int → Int) → Tr} : ∀ t, chg key g (ren key t) = chg key g t := by
  intro t
  induction t using Tr_rc with
  | lf p n a b =>
    rfl
  | br p n a cc ih =>
    try simp only [ren_e1, ren_e2, chg_e1, chg_e2]
    rw [up_eq rfl, ih]
    unfold mend
    have e1 : ∀ t', up (up cc (slt n a key) (ren key (cc (slt n a key)))) (slt n a key) t' = up cc (slt n a key) t' := fun t' => by
      funext k
      unfold up
      split <;> rfl
    have e2 : dlz (up cc (slt n a key) (ren key (cc (slt n a key)))) (slt n a key) = dlz cc (slt n a key) := by
      funext k
      unfold dlz up
      by_cases c1 : k < slt n a key
      · rw [if_pos c1, if_pos c1, if_neg (by omega)]
      · rw [if_neg c1, if_neg c1, if_neg (by omega)]
    rw [e1, e1, e2]
theorem Okt_ren : ∀ {t : Tr} {h : Nat} {lo hi : Int}, Okt t h lo hi → Okt (ren key t) h lo hi ∧ tlst (ren key t) = tlst t := by
  intro t
  induction t using Tr_rc with
  | lf p n a b =>
    try dsimp only [Okt_e1, Okt_e2, ren_e1, ren_e2] at *
    exact fun o => ⟨o, rfl⟩
  | br p n a cc ih =>
    try dsimp only [Okt_e1, Okt_e2, ren_e1, ren_e2] at *
    rintro h lo hi ⟨h', eh, n0, n1, r⟩
    try dsimp only [Okt_e1, Okt_e2, ren_e1, ren_e2]
    refine ⟨⟨h', eh, n0, n1, fun k k0 k1 => ?_⟩, rfl⟩
    obtain ⟨r1, r2, r3⟩ := r k k0 k1
    by_cases e : k = slt n a key
    · rw [up_eq e, ← e]
      obtain ⟨i1, i2⟩ := ih k r3
      exact ⟨r1, i2.trans r2, i1⟩
    · rw [up_ne e]
      exact ⟨r1, r2, r3⟩
/-- the row of a branch that a key goes to -/
theorem cc_slot {n : Int} {a : Int → Int} (k0' : -2147483648 ≤ key) (k1' : key < 2147483648) (x0 : 2 ≤ x) (x1 : x < 176) (hR : q_g s 244 x = n) (n5 : n ≤ 5) (hA : ∀ k, 0 ≤ k → k < n → q_g s 245 (6 * x + k) = a k) : ∀ (f : Nat) (k : Int), n - k ≤ f → 0 ≤ k → k < n → EV (d) 47 61 [.ref 242, .int (q_I (key)), .int (q_I (x)), .int (q_I (k))] [] (q_h L xs s O c) = EV (d) 47 104 [.ref 242, .int (q_I (key)), .int (q_I (x)), .int (q_I (slF n a key f k))] [] (q_h L xs s O c)
  | 0, k, hf, h0, h1 => by omega
  | f + 1, k, hf, h0, h1 => by
    unfold slF
    rw [R_47_61 (h0 := by omega) (h1 := by omega)]
    by_cases c1 : k + 1 < n
    · have hA1 := hA (k + 1) (by omega) c1
      have rg := q_g_rg s 245 (6 * x + (k + 1))
      rw [hA1] at rg
      have hA2 : q_g s 245 (x * 6 + k + 1) = a (k + 1) := by rw [show x * 6 + k + 1 = 6 * x + (k + 1) by omega, hA1]
      by_cases c2 : a (k + 1) ≤ key
      · rw [if_pos ⟨c1, c2⟩, ← cc_slot k0' k1' x0 x1 hR n5 hA f (k + 1) (by omega) (by omega) c1]
        simp (disch := first | omega | exact q_b_01 _) only [↓reduceIte, q_bk0, q_bk1, q_bk2, q_sg_b, q_b_0, q_b_n0, q_b_1, q_b_n1, q_b_T, q_b_F, q_sg_g, q_sg_sg, q_sg_xs, q_sg_id, q_gu_ne, q_gu_eq, q_g_fne, q_g_cpe, q_w_f, q_v_f, q_u_f, q_fn_f, q_cp_f, q_sg_pg, q_sg_hc, q_lt_t, q_lt_f, q_le_t, q_le_f, q_eq_t, q_eq_f, ne_eq, eq_self, Bool.false_eq_true, Bool.true_eq_false, not_true_eq_false, not_false_eq_true, true_and, and_true, false_and, and_false, true_or, or_true, false_or, or_false, if_true, if_false, Int.reduceAdd, Int.reduceMul, Int.reduceSub, Int.reduceNeg, hR, hA2, R_47_0, R_47_19, R_47_24, R_47_27, R_47_37, R_47_43, R_47_47, R_47_57, R_47_59, R_47_70, R_47_73, R_47_81, R_47_94, R_47_98, R_47_104, R_47_114, R_47_125, R_47_136, R_47_139, R_47_144, C_47_21]
      · rw [if_neg (fun z => c2 z.2)]
        simp (disch := first | omega | exact q_b_01 _) only [↓reduceIte, q_bk0, q_bk1, q_bk2, q_sg_b, q_b_0, q_b_n0, q_b_1, q_b_n1, q_b_T, q_b_F, q_sg_g, q_sg_sg, q_sg_xs, q_sg_id, q_gu_ne, q_gu_eq, q_g_fne, q_g_cpe, q_w_f, q_v_f, q_u_f, q_fn_f, q_cp_f, q_sg_pg, q_sg_hc, q_lt_t, q_lt_f, q_le_t, q_le_f, q_eq_t, q_eq_f, ne_eq, eq_self, Bool.false_eq_true, Bool.true_eq_false, not_true_eq_false, not_false_eq_true, true_and, and_true, false_and, and_false, true_or, or_true, false_or, or_false, if_true, if_false, Int.reduceAdd, Int.reduceMul, Int.reduceSub, Int.reduceNeg, hR, hA2, R_47_0, R_47_19, R_47_24, R_47_27, R_47_37, R_47_43, R_47_47, R_47_57, R_47_59, R_47_70, R_47_73, R_47_81, R_47_94, R_47_98, R_47_114, R_47_125, R_47_136, R_47_139, R_47_144, C_47_21]
    · rw [if_neg (fun z => c1 z.1)]
      simp (disch := first | omega | exact q_b_01 _) only [↓reduceIte, q_bk0, q_bk1, q_bk2, q_sg_b, q_b_0, q_b_n0, q_b_1, q_b_n1, q_b_T, q_b_F, q_sg_g, q_sg_sg, q_sg_xs, q_sg_id, q_gu_ne, q_gu_eq, q_g_fne, q_g_cpe, q_w_f, q_v_f, q_u_f, q_fn_f, q_cp_f, q_sg_pg, q_sg_hc, q_lt_t, q_lt_f, q_le_t, q_le_f, q_eq_t, q_eq_f, ne_eq, eq_self, Bool.false_eq_true, Bool.true_eq_false, not_true_eq_false, not_false_eq_true, true_and, and_true, false_and, and_false, true_or, or_true, false_or, or_false, if_true, if_false, Int.reduceAdd, Int.reduceMul, Int.reduceSub, Int.reduceNeg, hR, R_47_0, R_47_19, R_47_24, R_47_27, R_47_37, R_47_43, R_47_47, R_47_57, R_47_59, R_47_70, R_47_73, R_47_81, R_47_94, R_47_98, R_47_114, R_47_125, R_47_136, R_47_139, R_47_144, C_47_21]
theorem dC_c {s u : Nat → Int → Int32} (h : ∀ k, 243 ≤ k → k ≤ 247 → u k = s k) : dC u = dC s := by
  unfold dC q_g
  rw [h 243 (by omega) (by omega), h 244 (by omega) (by omega), h 245 (by omega) (by omega), h 246 (by omega) (by omega), h 247 (by omega) (by omega)]
theorem cc_findL (k0' : -2147483648 ≤ key) (k1' : key < 2147483648) : ∀ {t : Tr} {h : Nat} {lo hi : Int} (x l : Int) (s : Nat → Int → Int32) (x3 : Value), Okt t h lo hi → Rep (dC s) t x → (∀ y, Wi (dC s) t x y → 2 ≤ y ∧ y < q_g s 242 9) → q_g s 242 9 ≤ 176 → q_g s 242 8 = l → 0 ≤ l → l + h < 40 → ∃ u, EV (d + 1) 47 10 [.ref 242, .int (q_I (key)), .int (q_I (x)), x3] [] (q_h L xs s O c) = some (.inl (some (.int (q_I (wyn (dC s) key t x h)))), q_h L xs (u) O c) ∧ q_g u 242 8 = l + h + 1 ∧ (∀ i : Nat, i ≤ h → q_g u 249 (l + i) = wyn (dC s) key t x i) ∧ (∀ i : Nat, i < h → q_g u 250 (l + i) = sln key t i) ∧ (∀ k z, k ≠ 249 → k ≠ 250 → ¬ (k = 242 ∧ z = 8) → u k z = s k z) ∧ ∀ z, z < l → u 249 z = s 249 z ∧ u 250 z = s 250 z := by
  intro t
  induction t using Tr_rc with
  | lf p n a b =>
    try dsimp only [Rep_e1, Rep_e2, Wi_e1, Wi_e2, Okt_e1, Okt_e2] at *
    rintro h lo hi x l s x3 ⟨e, n0, n1, o⟩ hr hw hN hl l0 l1
    subst e
    have xr := hw x rfl
    have nr := q_g_rg s 242 9
    have hK : q_g s 243 x = 1 := hr.1
    have isn := cc_isNode (d := d) (L := L) (xs := xs) (O := O) (c := c) (s := s) (x := x) (n := q_g s 242 9) rfl
    rw [q_sg_id (by omega) (by omega), q_bt ⟨by omega, by omega, by omega⟩] at isn
    have g8 : q_g (q_u s 249 l x) 242 8 = l := by rw [q_gu_ne (by omega), hl]
    have gK : q_g (q_u s 249 l x) 243 x = 1 := by rw [q_gu_ne (by omega), hK]
    try dsimp only [Rep_e1, Rep_e2, Wi_e1, Wi_e2, Okt_e1, Okt_e2]
    refine ⟨q_u (q_u s 249 l x) 242 8 (l + 1), ?_, ?_, fun i hi => ?_, fun i hi => by omega, fun k z h1 h2 h3 => ?_, fun z hz => ?_⟩
    · rw [R_47_10]
      simp (disch := first | omega | exact q_b_01 _) only [↓reduceIte, q_bk0, q_bk1, q_bk2, q_sg_b, q_b_0, q_b_n0, q_b_1, q_b_n1, q_b_T, q_b_F, q_sg_g, q_sg_sg, q_sg_xs, q_sg_id, q_gu_ne, q_gu_eq, q_g_fne, q_g_cpe, q_w_f, q_v_f, q_u_f, q_fn_f, q_cp_f, q_sg_pg, q_sg_hc, q_lt_t, q_lt_f, q_le_t, q_le_f, q_eq_t, q_eq_f, ne_eq, eq_self, Bool.false_eq_true, Bool.true_eq_false, not_true_eq_false, not_false_eq_true, true_and, and_true, false_and, and_false, true_or, or_true, false_or, or_false, if_true, if_false, Int.reduceAdd, Int.reduceMul, Int.reduceSub, Int.reduceNeg, hl, isn, g8, gK, R_47_0, R_47_19, R_47_24, R_47_27, R_47_37, R_47_43, R_47_47, R_47_57, R_47_59, R_47_70, R_47_73, R_47_81, R_47_94, R_47_98, R_47_104, R_47_114, R_47_125, R_47_136, R_47_139, R_47_144, C_47_21]
      rfl
    · rw [q_gu_eq rfl, q_sg_id (by omega) (by omega)]
      simp
    · have e : i = 0 := by omega
      subst e
      rw [q_gu_ne (by omega), q_gu_eq (by simp), q_sg_id (by omega) (by omega), wyn_0]
    · rw [q_u_n (by omega), q_u_n (by omega)]
    · rw [q_u_n (by omega), q_u_n (by omega), q_u_n (by omega), q_u_n (by omega)]
      exact ⟨rfl, rfl⟩
  | br p n a cc ih =>
    try dsimp only [Rep_e1, Rep_e2, Wi_e1, Wi_e2, Okt_e1, Okt_e2] at *
    rintro h lo hi x l s x3 ⟨h', e, n0, n1, r⟩ hr hw hN hl l0 l1
    subst e
    obtain ⟨s0, s1, s2, s3⟩ := slt_ok (n := n) (a := a) (key := key) n0
    have xr := hw x (Or.inl rfl)
    have nr := q_g_rg s 242 9
    have hK : q_g s 243 x = 2 := hr.1
    have hR : q_g s 244 x = n := hr.2.1
    have isn := cc_isNode (d := d) (L := L) (xs := xs) (O := O) (c := c) (s := s) (x := x) (n := q_g s 242 9) rfl
    rw [q_sg_id (by omega) (by omega), q_bt ⟨by omega, by omega, by omega⟩] at isn
    have g8 : q_g (q_u s 249 l x) 242 8 = l := by rw [q_gu_ne (by omega), hl]
    have gK : q_g (q_u s 249 l x) 243 x = 2 := by rw [q_gu_ne (by omega), hK]
    have gR : q_g (q_u s 249 l x) 244 x = n := by rw [q_gu_ne (by omega), hR]
    have slo := cc_slot (d := d + 1) (L := L) (xs := xs) (O := O) (c := c) (s := q_u s 249 l x) (key := key) (a := a) k0' k1' xr.1 (by omega) gR (by omega) (fun k k0 k1 => by rw [q_gu_ne (by omega)]; exact (hr.2.2.2.2.2 k k0 k1).1) n.toNat 0 (by omega) (by omega) (by omega)
    have eB : q_g s 246 (x * 6 + slt n a key) = (dC s).B x (slt n a key) := by
      show _ = q_g s 246 (6 * x + slt n a key)
      rw [show x * 6 + slt n a key = 6 * x + slt n a key by omega]
    have eslt : slF n a key n.toNat 0 = slt n a key := rfl
    rw [eslt] at slo
    have eD : dC (q_u (q_u (q_u s 249 l x) 250 l (slt n a key)) 242 8 (l + 1)) = dC s := dC_c (fun k k0 k1 => by rw [q_u_k (by omega), q_u_k (by omega), q_u_k (by omega)])
    have g9 : q_g (q_u (q_u (q_u s 249 l x) 250 l (slt n a key)) 242 8 (l + 1)) 242 9 = q_g s 242 9 := by rw [q_gu_ne (by omega), q_gu_ne (by omega), q_gu_ne (by omega)]
    have q := ih (slt n a key) ((dC s).B x (slt n a key)) (l + 1) (q_u (q_u (q_u s 249 l x) 250 l (slt n a key)) 242 8 (l + 1)) (.int (q_I (slt n a key))) (r _ s0 s1).2.2 (by rw [eD]; exact (hr.2.2.2.2.2 _ s0 s1).2) (by rw [eD, g9]; exact fun y hy => hw y (Or.inr ⟨_, s0, s1, hy⟩)) (by rw [g9]; exact hN) (by rw [q_gu_eq rfl, q_sg_id (by omega) (by omega)]) (by omega) (by omega)
    rw [eD] at q
    obtain ⟨u, u1, u2, u3, u4, u5, u6⟩ := q
    have b8 : q_g (q_u (q_u s 249 l x) 250 l (slt n a key)) 242 8 = l := by rw [q_gu_ne (by omega), g8]
    have bB : q_g (q_u (q_u s 249 l x) 250 l (slt n a key)) 246 (x * 6 + slt n a key) = (dC s).B x (slt n a key) := by rw [q_gu_ne (by omega), q_gu_ne (by omega), eB]
    try dsimp only [Rep_e1, Rep_e2, Wi_e1, Wi_e2, Okt_e1, Okt_e2]
    refine ⟨u, ?_, by rw [u2]; omega, fun i hi => ?_, fun i hi => ?_, fun k z h1 h2 h3 => ?_, fun z hz => ?_⟩
    · rw [R_47_10]
      simp (disch := first | omega | exact q_b_01 _) only [↓reduceIte, q_bk0, q_bk1, q_bk2, q_sg_b, q_b_0, q_b_n0, q_b_1, q_b_n1, q_b_T, q_b_F, q_sg_g, q_sg_sg, q_sg_xs, q_sg_id, q_gu_ne, q_gu_eq, q_g_fne, q_g_cpe, q_w_f, q_v_f, q_u_f, q_fn_f, q_cp_f, q_sg_pg, q_sg_hc, q_lt_t, q_lt_f, q_le_t, q_le_f, q_eq_t, q_eq_f, ne_eq, eq_self, Bool.false_eq_true, Bool.true_eq_false, not_true_eq_false, not_false_eq_true, true_and, and_true, false_and, and_false, true_or, or_true, false_or, or_false, if_true, if_false, Int.reduceAdd, Int.reduceMul, Int.reduceSub, Int.reduceNeg, hl, isn, g8, gK, R_47_0, R_47_19, R_47_24, R_47_27, R_47_37, R_47_43, R_47_47, R_47_57, R_47_59, R_47_70, R_47_73, R_47_81, R_47_94, R_47_98, R_47_114, R_47_125, R_47_136, R_47_139, R_47_144, C_47_21]
      rw [slo, R_47_104 (h0 := by rw [g8]; omega) (h1 := by rw [g8]; omega)]
      simp (disch := first | omega | exact q_b_01 _) only [↓reduceIte, q_bk0, q_bk1, q_bk2, q_sg_b, q_b_0, q_b_n0, q_b_1, q_b_n1, q_b_T, q_b_F, q_sg_g, q_sg_sg, q_sg_xs, q_sg_id, q_gu_ne, q_gu_eq, q_g_fne, q_g_cpe, q_w_f, q_v_f, q_u_f, q_fn_f, q_cp_f, q_sg_pg, q_sg_hc, q_lt_t, q_lt_f, q_le_t, q_le_f, q_eq_t, q_eq_f, ne_eq, eq_self, Bool.false_eq_true, Bool.true_eq_false, not_true_eq_false, not_false_eq_true, true_and, and_true, false_and, and_false, true_or, or_true, false_or, or_false, if_true, if_false, Int.reduceAdd, Int.reduceMul, Int.reduceSub, Int.reduceNeg, g8, b8, bB, R_47_0, R_47_19, R_47_24, R_47_27, R_47_37, R_47_43, R_47_47, R_47_57, R_47_59, R_47_70, R_47_73, R_47_81, R_47_94, R_47_98, R_47_104, R_47_114, R_47_125, R_47_136, R_47_139, R_47_144, C_47_21]
      exact u1
    · cases i with
      | zero =>
        show (u 249 (l + ((0 : Nat) : Int))).toInt = x
        rw [(u6 (l + ((0 : Nat) : Int)) (by omega)).1]
        show q_g (q_u (q_u (q_u s 249 l x) 250 l (slt n a key)) 242 8 (l + 1)) 249 (l + ((0 : Nat) : Int)) = x
        rw [q_gu_ne (by omega), q_gu_ne (by omega), q_gu_eq (by simp), q_sg_id (by omega) (by omega)]
      | succ i =>
        have := u3 i (by omega)
        rw [show l + 1 + (i : Int) = l + ((i + 1 : Nat) : Int) by omega] at this
        exact this
    · cases i with
      | zero =>
        show (u 250 (l + ((0 : Nat) : Int))).toInt = slt n a key
        rw [(u6 (l + ((0 : Nat) : Int)) (by omega)).2]
        show q_g (q_u (q_u (q_u s 249 l x) 250 l (slt n a key)) 242 8 (l + 1)) 250 (l + ((0 : Nat) : Int)) = slt n a key
        rw [q_gu_ne (by omega), q_gu_eq (by simp), q_sg_id (by omega) (by omega)]
      | succ i =>
        have := u4 i (by omega)
        rw [show l + 1 + (i : Int) = l + ((i + 1 : Nat) : Int) by omega] at this
        exact this
    · rw [u5 k z h1 h2 h3, q_u_n (by omega), q_u_n (by omega), q_u_n (by omega)]
    · rw [(u6 z (by omega)).1, (u6 z (by omega)).2, q_u_n (by omega), q_u_n (by omega), q_u_n (by omega), q_u_n (by omega), q_u_n (by omega), q_u_n (by omega)]
      exact ⟨rfl, rfl⟩
end CWY
