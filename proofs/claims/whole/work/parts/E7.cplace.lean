/-! NEW NODES take pages, one, then all beneath it; the class -/
noncomputable def cN : Tr → Int := tr_rec (fun p u0_ u1_ u2_ => if p = -1 then 1 else 0) (fun p n u0_ c r_  => if p = -1 then 1 + smz (fun k => r_ k) n.toNat else 0)
theorem cN_e1 (p u0_ : Int) (u1_ : Int → Int) (u2_ : Int → Int) : cN (.lf p u0_ u1_ u2_) = (if p = -1 then 1 else 0) := rfl
theorem cN_e2 (p n : Int) (u0_ : Int → Int) (c : Int → Tr) : cN (.br p n u0_ c) = (if p = -1 then 1 + smz (fun k => cN (c k)) n.toNat else 0) := rfl
noncomputable def Lab (D : Ar) (tq pf : Int → Int) : Tr → Int → Int → Prop := tr_rec (fun p u0_ u1_ u2_ k x => pf x = (if p = -1 then tq k else p)) (fun p n u0_ c r_ k x => pf x = (if p = -1 then tq k else p) ∧ (p = -1 → ∀ j, 0 ≤ j → j < n → r_ j (k + 1 + smz (fun i => cN (c i)) j.toNat) (D.B x j)))
theorem Lab_e1 (D : Ar) (tq pf : Int → Int) (p u0_ : Int) (u1_ : Int → Int) (u2_ : Int → Int) (k : Int) (x : Int) : Lab D tq pf (.lf p u0_ u1_ u2_) k x = (pf x = (if p = -1 then tq k else p)) := rfl
theorem Lab_e2 (D : Ar) (tq pf : Int → Int) (p n : Int) (u0_ : Int → Int) (c : Int → Tr) (k : Int) (x : Int) : Lab D tq pf (.br p n u0_ c) k x = (pf x = (if p = -1 then tq k else p) ∧ (p = -1 → ∀ j, 0 ≤ j → j < n → Lab D tq pf (c j) (k + 1 + smz (fun i => cN (c i)) j.toNat) (D.B x j))) := rfl
noncomputable def OwL (D : Ar) (tq ow : Int → Int) : Tr → Int → Int → Prop := tr_rec (fun p u0_ u1_ u2_ k x => p = -1 → ow (tq k) = x) (fun p n u0_ c r_ k x => p = -1 → ow (tq k) = x ∧ ∀ j, 0 ≤ j → j < n → r_ j (k + 1 + smz (fun i => cN (c i)) j.toNat) (D.B x j))
theorem OwL_e1 (D : Ar) (tq ow : Int → Int) (p u0_ : Int) (u1_ : Int → Int) (u2_ : Int → Int) (k : Int) (x : Int) : OwL D tq ow (.lf p u0_ u1_ u2_) k x = (p = -1 → ow (tq k) = x) := rfl
theorem OwL_e2 (D : Ar) (tq ow : Int → Int) (p n : Int) (u0_ : Int → Int) (c : Int → Tr) (k : Int) (x : Int) : OwL D tq ow (.br p n u0_ c) k x = (p = -1 → ow (tq k) = x ∧ ∀ j, 0 ≤ j → j < n → OwL D tq ow (c j) (k + 1 + smz (fun i => cN (c i)) j.toNat) (D.B x j)) := rfl
section PLA
variable {D : Ar} {tq pf pf' ow ow' : Int → Int} {t : Tr} {k x : Int}
theorem smz_mono {f : Int → Int} (hf : ∀ k, 0 ≤ f k) {i n : Nat} (h : i ≤ n) : smz f i ≤ smz f n := by
  induction n with
  | zero =>
    have : i = 0 := by omega
    subst this
    exact Int.le_refl _
  | succ n ih =>
    by_cases e : i = n + 1
    · subst e
      exact Int.le_refl _
    · have := ih (by omega)
      have := hf n
      show smz f i ≤ smz f n + f n
      omega
theorem smz_s {f : Int → Int} {j : Int} (j0 : 0 ≤ j) : smz f (j + 1).toNat = smz f j.toNat + f j := by
  rw [show (j + 1).toNat = j.toNat + 1 by omega]
  show smz f j.toNat + f ((j.toNat : Nat) : Int) = _
  rw [show ((j.toNat : Nat) : Int) = j by omega]
theorem cN_0 : ∀ t, 0 ≤ cN t := by
  intro t
  induction t using Tr_rc with
  | lf p n a b =>
    try dsimp only [cN_e1, cN_e2]
    split <;> omega
  | br p n a c ih =>
    try dsimp only [cN_e1, cN_e2]
    have := smz_0 (f := fun k => cN (c k)) (n := n.toNat) (fun k _ _ => ih k)
    split <;> omega
theorem off_le {n : Int} {c : Int → Tr} {j : Int} (j0 : 0 ≤ j) (j1 : j < n) : smz (fun i => cN (c i)) j.toNat + cN (c j) ≤ smz (fun i => cN (c i)) n.toNat ∧ 0 ≤ smz (fun i => cN (c i)) j.toNat := by
  have h1 := smz_mono (f := fun i => cN (c i)) (fun k => cN_0 (c k)) (show (j + 1).toNat ≤ n.toNat by omega)
  rw [smz_s j0] at h1
  exact ⟨h1, smz_0 (fun k _ _ => cN_0 (c k))⟩
theorem Lab_fr : ∀ {t : Tr} {k x : Int}, Lab D tq pf t k x → (∀ y, Wi D t x y → pf' y = pf y) → Lab D tq pf' t k x := by
  intro t
  induction t using Tr_rc with
  | lf p n a b =>
    try dsimp only [Wi_e1, Wi_e2, Lab_e1, Lab_e2] at *
    intro k x h e
    show pf' x = _
    rw [e x rfl]
    exact h
  | br p n a c ih =>
    try dsimp only [Wi_e1, Wi_e2, Lab_e1, Lab_e2] at *
    intro k x h e
    try dsimp only [Wi_e1, Wi_e2, Lab_e1, Lab_e2]
    refine ⟨?_, fun hp j j0 j1 => ih j (h.2 hp j j0 j1) (fun y hy => e y (Or.inr ⟨j, j0, j1, hy⟩))⟩
    rw [e x (Or.inl rfl)]
    exact h.1
theorem OwL_fr : ∀ {t : Tr} {k x : Int}, OwL D tq ow t k x → (∀ i, k ≤ i → i < k + cN t → ow' (tq i) = ow (tq i)) → OwL D tq ow' t k x := by
  intro t
  induction t using Tr_rc with
  | lf p n a b =>
    try dsimp only [OwL_e1, OwL_e2] at *
    intro k x h e hp
    rw [e k (by omega) (by rw [cN_e1, if_pos hp]; omega)]
    exact h hp
  | br p n a c ih =>
    try dsimp only [OwL_e1, OwL_e2] at *
    intro k x h e hp
    have ec : cN (.br p n a c) = 1 + smz (fun i => cN (c i)) n.toNat := by
      rw [cN_e2]
      rw [if_pos hp]
    rw [ec] at e
    have s0 := smz_0 (f := fun k => cN (c k)) (n := n.toNat) (fun k _ _ => cN_0 (c k))
    try dsimp only [OwL_e1, OwL_e2]
    refine ⟨?_, fun j j0 j1 => ih j ((h hp).2 j j0 j1) (fun i i0 i1 => ?_)⟩
    · rw [e k (by omega) (by omega)]
      exact (h hp).1
    · have := off_le (c := c) j0 j1
      exact e i (by omega) (by omega)
end PLA
noncomputable def Fq (s u : Nat → Int → Int32) : Prop := ∀ k z, ¬ (k = 241 ∧ (z = 12 ∨ z = 13)) → ¬ (k = 251 ∧ z = 2) → k ≠ 252 → k ≠ 254 → k ≠ 255 → u k z = s k z
/-- so far, ahead of child j -/
noncomputable def PCl (m F : Int → Int) (s : Nat → Int → Int32) (n : Int) (cc : Int → Tr) (k x j : Int) (u : Nat → Int → Int32) : Prop :=
  CTk m F (k + 1 + smz (fun i => cN (cc i)) j.toNat) u ∧ k + 1 + smz (fun i => cN (cc i)) j.toNat ≤ cap m ∧ (∀ i, 0 ≤ i → i < j → Lab (dC s) (tp m) (q_g u 255) (cc i) (k + 1 + smz (fun i => cN (cc i)) i.toNat) ((dC s).B x i) ∧ OwL (dC s) (tp m) (q_g u 254) (cc i) (k + 1 + smz (fun i => cN (cc i)) i.toNat) ((dC s).B x i)) ∧ q_g u 255 x = tp m k ∧ q_g u 254 (tp m k) = x ∧ (∀ z, z ≠ x → (∀ i, 0 ≤ i → i < n → ¬ Wi (dC s) (cc i) ((dC s).B x i) z) → u 255 z = s 255 z) ∧ (∀ q, (∀ i, k ≤ i → i < k + 1 + smz (fun i => cN (cc i)) j.toNat → q ≠ tp m i) → u 254 q = s 254 q) ∧ Fq s u
section CPL
variable {d L : Nat} {xs : Nat → Int32} {O : Nat → Int64} {c : Bool × Nat × Nat} {m F : Int → Int} {N : Int}
theorem Fq_dC {s u : Nat → Int → Int32} (h : Fq s u) : dC u = dC s := dC_c (fun k h1 h2 => funext fun z => h k z (by omega) (by omega) (by omega) (by omega) (by omega))
theorem Ft_Fq {s u : Nat → Int → Int32} (h : Ft s u) : Fq s u := fun k z h1 h2 h3 _ _ => h k z h1 h2 h3
theorem Fq_trans {s u w : Nat → Int → Int32} (h : Fq s u) (h' : Fq u w) : Fq s w := fun k z h1 h2 h3 h4 h5 => by rw [h' k z h1 h2 h3 h4 h5, h k z h1 h2 h3 h4 h5]
theorem cc_place (I : TkI m) (hF : FuI m F) : ∀ {t : Tr} {h : Nat} {lo hi : Int} (x lvl k : Int) (s : Nat → Int → Int32), Okt t h lo hi → Sub (dC s) N t x → N ≤ 176 → CTk m F k s → 0 ≤ k → k ≤ cap m → 0 ≤ lvl → lvl + h ≤ 40 →
    (k + cN t ≤ cap m → ∃ u, EV (d + h + 1) 89 0 [.ref 241, .int (q_I (x)), .int (q_I (lvl)), .null, .null] [] (q_h L xs s O c) = some (.inl (some (.int (q_I (1)))), q_h L xs (u) O c) ∧ CTk m F (k + cN t) u ∧ Lab (dC s) (tp m) (q_g u 255) t k x ∧ OwL (dC s) (tp m) (q_g u 254) t k x ∧ (∀ z, ¬ Wi (dC s) t x z → u 255 z = s 255 z) ∧ (∀ q, (∀ i, k ≤ i → i < k + cN t → q ≠ tp m i) → u 254 q = s 254 q) ∧ Fq s u) ∧
    (cap m < k + cN t → ∃ u, EV (d + h + 1) 89 0 [.ref 241, .int (q_I (x)), .int (q_I (lvl)), .null, .null] [] (q_h L xs s O c) = some (.inl (some (.int (q_I (0)))), q_h L xs (u) O c) ∧ Fq s u) := by
  intro t
  induction t using Tr_rc generalizing d with
  | lf p n a b =>
    try dsimp only [Wi_e1, Wi_e2, Okt_e1, Okt_e2, Lab_e1, Lab_e2, OwL_e1, OwL_e2] at *
    intro h lo hi x lvl k s o S hN C k0 kc l0 l1
    have xr := S.2.2 x rfl
    have eh := o.1
    subst eh
    obtain ⟨r1, r2, r3, r4, r5, r6⟩ := Sub_R1 S
    have r1 : q_g s 243 x = 1 := r1
    by_cases hp : p = -1
    · have f1 : q_g s 247 x = 1 := by
        rcases r5 with ⟨f, e⟩ | ⟨f, e⟩
        · omega
        · exact f
      have ec : cN (.lf p n a b) = 1 := by
        rw [cN_e1]
        rw [if_pos hp]
      rw [ec]
      obtain ⟨t1, t2⟩ := cc_take (d := d) (L := L) (xs := xs) (O := O) (c := c) I hF C k0 kc
      constructor
      · intro hk
        obtain ⟨u, u1, u2, u3⟩ := t1 (by omega)
        have tr := tp_rg I k0 (by omega)
        have g43 : q_g u 243 x = 1 := by
          show (u 243 x).toInt = 1
          rw [u3 243 x (by omega) (by omega) (by omega)]
          exact r1
        try dsimp only [Wi_e1, Wi_e2, Okt_e1, Okt_e2, Lab_e1, Lab_e2, OwL_e1, OwL_e2]
        refine ⟨q_u (q_u u 254 (tp m k) x) 255 x (tp m k), ?_, ?_, ?_, ?_, ?_, ?_, ?_⟩
        · simp (disch := first | omega | exact q_b_01 _) only [↓reduceIte, q_bk0, q_bk1, q_bk2, q_sg_b, q_b_0, q_b_n0, q_b_1, q_b_n1, q_b_T, q_b_F, q_sg_g, q_sg_sg, q_sg_xs, q_sg_id, q_gu_ne, q_gu_eq, q_g_fne, q_g_cpe, q_w_f, q_v_f, q_u_f, q_fn_f, q_cp_f, q_sg_pg, q_sg_hc, q_lt_t, q_lt_f, q_le_t, q_le_f, q_eq_t, q_eq_f, ne_eq, eq_self, Bool.false_eq_true, Bool.true_eq_false, not_true_eq_false, not_false_eq_true, true_and, and_true, false_and, and_false, true_or, or_true, false_or, or_false, if_true, if_false, Int.reduceAdd, Int.reduceMul, Int.reduceSub, Int.reduceNeg, f1, u1, g43, R_89_0, R_89_4, R_89_11, R_89_13, R_89_22, R_89_25, R_89_32, R_89_34, R_89_38, R_89_44, R_89_50, R_89_52, R_89_59, R_89_66, R_89_75, R_89_79, R_89_82, R_89_93, R_89_96, R_89_103, R_89_119, R_89_125, R_89_128, R_89_130, R_89_136, C_89_35, C_89_122]
        · obtain ⟨c1, c2, c3, c4, c5⟩ := u2
          try dsimp only [Wi_e1, Wi_e2, Okt_e1, Okt_e2, Lab_e1, Lab_e2, OwL_e1, OwL_e2]
          refine ⟨fun p p0 p1 => by rw [q_gu_ne (by omega), q_gu_ne (by omega)]; exact c1 p p0 p1, by rw [q_gu_ne (by omega), q_gu_ne (by omega)]; exact c2, by rw [q_gu_ne (by omega), q_gu_ne (by omega)]; exact c3, by rw [q_gu_ne (by omega), q_gu_ne (by omega)]; exact c4, by rw [q_gu_ne (by omega), q_gu_ne (by omega)]; exact c5⟩
        · show q_g _ 255 x = if p = -1 then tp m k else p
          rw [if_pos hp, q_gu_eq rfl, q_sg_id (by omega) (by omega)]
        · intro _
          rw [q_gu_ne (by omega), q_gu_eq rfl, q_sg_id (by omega) (by omega)]
        · intro z hz
          have : z ≠ x := hz
          rw [q_u_n (by omega), q_u_n (by omega), u3 255 z (by omega) (by omega) (by omega)]
        · intro q hq
          have := hq k (by omega) (by omega)
          rw [q_u_n (by omega), q_u_n (by omega), u3 254 q (by omega) (by omega) (by omega)]
        · intro k z h1 h2 h3 h4 h5
          rw [q_u_n (by omega), q_u_n (by omega), u3 k z h1 h2 h3]
      · intro hk
        obtain ⟨u, u1, u2⟩ := t2 (by omega)
        try dsimp only [Wi_e1, Wi_e2, Okt_e1, Okt_e2, Lab_e1, Lab_e2, OwL_e1, OwL_e2]
        refine ⟨u, ?_, Ft_Fq u2⟩
        simp (disch := first | omega | exact q_b_01 _) only [↓reduceIte, q_bk0, q_bk1, q_bk2, q_sg_b, q_b_0, q_b_n0, q_b_1, q_b_n1, q_b_T, q_b_F, q_sg_g, q_sg_sg, q_sg_xs, q_sg_id, q_gu_ne, q_gu_eq, q_g_fne, q_g_cpe, q_w_f, q_v_f, q_u_f, q_fn_f, q_cp_f, q_sg_pg, q_sg_hc, q_lt_t, q_lt_f, q_le_t, q_le_f, q_eq_t, q_eq_f, ne_eq, eq_self, Bool.false_eq_true, Bool.true_eq_false, not_true_eq_false, not_false_eq_true, true_and, and_true, false_and, and_false, true_or, or_true, false_or, or_false, if_true, if_false, Int.reduceAdd, Int.reduceMul, Int.reduceSub, Int.reduceNeg, f1, u1, R_89_0, R_89_4, R_89_11, R_89_13, R_89_22, R_89_25, R_89_32, R_89_34, R_89_38, R_89_44, R_89_50, R_89_52, R_89_59, R_89_66, R_89_75, R_89_79, R_89_82, R_89_93, R_89_96, R_89_103, R_89_119, R_89_125, R_89_128, R_89_130, R_89_136, C_89_35, C_89_122]
    · have f0 : q_g s 247 x = 0 ∧ p = x := by
        rcases r5 with ⟨f, e⟩ | ⟨f, e⟩
        · exact ⟨f, e⟩
        · exact absurd e hp
      have ec : cN (.lf p n a b) = 0 := by
        rw [cN_e1]
        rw [if_neg hp]
      rw [ec]
      try dsimp only [Wi_e1, Wi_e2, Okt_e1, Okt_e2, Lab_e1, Lab_e2, OwL_e1, OwL_e2]
      refine ⟨fun hk => ⟨q_u s 255 x x, ?_, ?_, ?_, fun q => absurd q hp, ?_, ?_, ?_⟩, fun hk => by omega⟩
      · simp (disch := first | omega | exact q_b_01 _) only [↓reduceIte, q_bk0, q_bk1, q_bk2, q_sg_b, q_b_0, q_b_n0, q_b_1, q_b_n1, q_b_T, q_b_F, q_sg_g, q_sg_sg, q_sg_xs, q_sg_id, q_gu_ne, q_gu_eq, q_g_fne, q_g_cpe, q_w_f, q_v_f, q_u_f, q_fn_f, q_cp_f, q_sg_pg, q_sg_hc, q_lt_t, q_lt_f, q_le_t, q_le_f, q_eq_t, q_eq_f, ne_eq, eq_self, Bool.false_eq_true, Bool.true_eq_false, not_true_eq_false, not_false_eq_true, true_and, and_true, false_and, and_false, true_or, or_true, false_or, or_false, if_true, if_false, Int.reduceAdd, Int.reduceMul, Int.reduceSub, Int.reduceNeg, f0.1, R_89_0, R_89_4, R_89_11, R_89_13, R_89_22, R_89_25, R_89_32, R_89_34, R_89_38, R_89_44, R_89_50, R_89_52, R_89_59, R_89_66, R_89_75, R_89_79, R_89_82, R_89_93, R_89_96, R_89_103, R_89_119, R_89_125, R_89_128, R_89_130, R_89_136, C_89_35, C_89_122]
      · rw [Int.add_zero]
        obtain ⟨c1, c2, c3, c4, c5⟩ := C
        exact ⟨fun p p0 p1 => by rw [q_gu_ne (by omega)]; exact c1 p p0 p1, by rw [q_gu_ne (by omega)]; exact c2, by rw [q_gu_ne (by omega)]; exact c3, by rw [q_gu_ne (by omega)]; exact c4, by rw [q_gu_ne (by omega)]; exact c5⟩
      · show q_g _ 255 x = if p = -1 then tp m k else p
        rw [if_neg hp, q_gu_eq rfl, q_sg_id (by omega) (by omega), f0.2]
      · intro z hz
        have : z ≠ x := hz
        rw [q_u_n (by omega)]
      · intro q hq
        rw [q_u_n (by omega)]
      · intro k z h1 h2 h3 h4 h5
        rw [q_u_n (by omega)]
  | br p n a cc ih =>
    try dsimp only [Wi_e1, Wi_e2, Okt_e1, Okt_e2, Lab_e1, Lab_e2, OwL_e1, OwL_e2] at *
    intro h lo hi x lvl k s o S hN C k0 kc l0 l1
    have xr := S.2.2 x (Or.inl rfl)
    have o0 := o
    obtain ⟨h', eh, n0, n4, ok⟩ := o
    subst eh
    obtain ⟨r1, r2, r3, r4, r5, r6⟩ := Sub_R2 S
    have r1 : q_g s 243 x = 2 := r1
    have r2 : q_g s 244 x = n := r2
    by_cases hp : p = -1
    · have f1 : q_g s 247 x = 1 := by
        rcases r5 with ⟨f, e⟩ | ⟨f, e⟩
        · omega
        · exact f
      have ec : cN (.br p n a cc) = 1 + smz (fun i => cN (cc i)) n.toNat := by
        rw [cN_e2]
        rw [if_pos hp]
      have s0 := smz_0 (f := fun k => cN (cc k)) (n := n.toNat) (fun k _ _ => cN_0 (cc k))
      rw [ec]
      obtain ⟨t1, t2⟩ := cc_take (d := d + h' + 1) (L := L) (xs := xs) (O := O) (c := c) I hF C k0 kc
      by_cases kk : k < cap m
      · obtain ⟨u, u1, u2, u3⟩ := t1 kk
        have tr := tp_rg I k0 kk
        have dis := S.2.1
        rw [Dis_e2] at dis
        have wk : ∀ j, 0 ≤ j → j < n → ¬ Wi (dC s) (cc j) ((dC s).B x j) x := fun j j0 j1 => (dis j j0 j1).2.1
        -- the loop
        have loop : ∀ (f : Nat) (j : Int) (w : Nat → Int → Int32), n - j = f → 0 ≤ j → PCl m F s n cc k x j w → (k + (1 + smz (fun i => cN (cc i)) n.toNat) ≤ cap m → ∃ v, EV (d + h' + 1 + 1) 89 82 [.ref 241, .int (q_I (x)), .int (q_I (lvl)), .int (q_I (tp m k)), .int (q_I (j))] [] (q_h L xs (w) O c) = some (.inl (some (.int (q_I (1)))), q_h L xs (v) O c) ∧ PCl m F s n cc k x n v) ∧ (cap m < k + (1 + smz (fun i => cN (cc i)) n.toNat) → ∃ v, EV (d + h' + 1 + 1) 89 82 [.ref 241, .int (q_I (x)), .int (q_I (lvl)), .int (q_I (tp m k)), .int (q_I (j))] [] (q_h L xs (w) O c) = some (.inl (some (.int (q_I (0)))), q_h L xs (v) O c) ∧ Fq s v) := by
          intro f
          induction f with
          | zero =>
            intro j w hj j0 P
            have ej : j = n := by omega
            subst ej
            have g44 : q_g w 244 x = j := by
              show (w 244 x).toInt = j
              rw [P.2.2.2.2.2.2.2 244 x (by omega) (by omega) (by omega) (by omega) (by omega)]
              exact r2
            try dsimp only [Wi_e1, Wi_e2, Okt_e1, Okt_e2, Lab_e1, Lab_e2, OwL_e1, OwL_e2]
            refine ⟨fun hk => ⟨w, ?_, P⟩, fun hk => ?_⟩
            · rw [R_89_82 (h0 := by omega) (h1 := by omega)]
              simp (disch := first | omega | exact q_b_01 _) only [↓reduceIte, q_bk0, q_bk1, q_bk2, q_sg_b, q_b_0, q_b_n0, q_b_1, q_b_n1, q_b_T, q_b_F, q_sg_g, q_sg_sg, q_sg_xs, q_sg_id, q_gu_ne, q_gu_eq, q_g_fne, q_g_cpe, q_w_f, q_v_f, q_u_f, q_fn_f, q_cp_f, q_sg_pg, q_sg_hc, q_lt_t, q_lt_f, q_le_t, q_le_f, q_eq_t, q_eq_f, ne_eq, eq_self, Bool.false_eq_true, Bool.true_eq_false, not_true_eq_false, not_false_eq_true, true_and, and_true, false_and, and_false, true_or, or_true, false_or, or_false, if_true, if_false, Int.reduceAdd, Int.reduceMul, Int.reduceSub, Int.reduceNeg, g44, R_89_0, R_89_4, R_89_11, R_89_13, R_89_22, R_89_25, R_89_32, R_89_34, R_89_38, R_89_44, R_89_50, R_89_52, R_89_59, R_89_66, R_89_75, R_89_79, R_89_93, R_89_96, R_89_103, R_89_119, R_89_125, R_89_128, R_89_130, R_89_136, C_89_35, C_89_122]
            · have := P.2.1
              omega
          | succ f jh =>
            intro j w hj j0 P
            obtain ⟨p1, p2, p3, p4, p5, p6, p7, p8⟩ := id P
            have eD := Fq_dC p8
            have g44 : q_g w 244 x = n := by
              show (w 244 x).toInt = n
              rw [p8 244 x (by omega) (by omega) (by omega) (by omega) (by omega)]
              exact r2
            have g46 : q_g w 246 (x * 6 + j) = (dC s).B x j := by
              rw [← eD, show x * 6 + j = 6 * x + j by omega]
              rfl
            have Sk := Sub_kid S j0 (show j < n by omega)
            have yr := Sk.2.2 _ (Wi_self _ _ _)
            have ol := off_le (c := cc) (n := n) j0 (by omega)
            obtain ⟨i1, i2⟩ := ih j (d := d) ((dC s).B x j) (lvl + 1) (k + 1 + smz (fun i => cN (cc i)) j.toNat) w (ok j j0 (by omega)).2.2 (by rw [eD]; exact Sk) hN p1 (by omega) p2 (by omega) (by omega)
            rw [eD] at i1
            by_cases kj : k + 1 + smz (fun i => cN (cc i)) j.toNat + cN (cc j) ≤ cap m
            · obtain ⟨v, v1, v2, v3, v4, v5, v6, v7⟩ := i1 kj
              have es : k + 1 + smz (fun i => cN (cc i)) j.toNat + cN (cc j) = k + 1 + smz (fun i => cN (cc i)) (j + 1).toNat := by
                rw [smz_s j0]
                omega
              have nx : PCl m F s n cc k x (j + 1) v := by
                have keep : ∀ i, 0 ≤ i → i < k + 1 + smz (fun i => cN (cc i)) j.toNat → q_g v 254 (tp m i) = q_g w 254 (tp m i) := fun i i0 i1 => by
                  show (v 254 (tp m i)).toInt = _
                  rw [v6 (tp m i) (fun i' i0' i1' e => by have := tp_inj' I i0 (by omega) (by omega) (by omega) e; omega)]
                  rfl
                try dsimp only [Wi_e1, Wi_e2, Okt_e1, Okt_e2, Lab_e1, Lab_e2, OwL_e1, OwL_e2]
                refine ⟨by rw [← es]; exact v2, by omega, fun i i0 i1 => ?_, ?_, by rw [keep k k0 (by omega)]; exact p5, fun z z1 z2 => ?_, fun q hq => ?_, Fq_trans p8 v7⟩
                · by_cases e : i = j
                  · subst e
                    exact ⟨v3, v4⟩
                  · obtain ⟨q1, q2⟩ := p3 i i0 (by omega)
                    have oi := off_le (c := cc) (n := j) i0 (by omega)
                    try dsimp only [Wi_e1, Wi_e2, Okt_e1, Okt_e2, Lab_e1, Lab_e2, OwL_e1, OwL_e2]
                    refine ⟨Lab_fr q1 (fun y hy => ?_), OwL_fr q2 (fun i' a0 a1 => keep i' (by omega) (by omega))⟩
                    show (v 255 y).toInt = _
                    rw [v5 y (fun hw => (dis i i0 (by omega)).2.2 j j0 (by omega) (by omega) y hy hw)]
                    rfl
                · show (v 255 x).toInt = _
                  rw [v5 x (wk j j0 (by omega))]
                  exact p4
                · rw [v5 z (z2 j j0 (by omega)), p6 z z1 z2]
                · rw [← es] at hq
                  have := cN_0 (cc j)
                  rw [v6 q (fun i a0 a1 => hq i (by omega) (by omega)), p7 q (fun i a0 a1 => hq i a0 (by omega))]
              obtain ⟨j1, j2⟩ := jh (j + 1) v (by omega) (by omega) nx
              try dsimp only [Wi_e1, Wi_e2, Okt_e1, Okt_e2, Lab_e1, Lab_e2, OwL_e1, OwL_e2]
              refine ⟨fun hk => ?_, fun hk => ?_⟩
              · obtain ⟨q, q1, q2⟩ := j1 hk
                try dsimp only [Wi_e1, Wi_e2, Okt_e1, Okt_e2, Lab_e1, Lab_e2, OwL_e1, OwL_e2]
                refine ⟨q, ?_, q2⟩
                rw [R_89_82 (h0 := by omega) (h1 := by omega)]
                simp (disch := first | omega | exact q_b_01 _) only [↓reduceIte, q_bk0, q_bk1, q_bk2, q_sg_b, q_b_0, q_b_n0, q_b_1, q_b_n1, q_b_T, q_b_F, q_sg_g, q_sg_sg, q_sg_xs, q_sg_id, q_gu_ne, q_gu_eq, q_g_fne, q_g_cpe, q_w_f, q_v_f, q_u_f, q_fn_f, q_cp_f, q_sg_pg, q_sg_hc, q_lt_t, q_lt_f, q_le_t, q_le_f, q_eq_t, q_eq_f, ne_eq, eq_self, Bool.false_eq_true, Bool.true_eq_false, not_true_eq_false, not_false_eq_true, true_and, and_true, false_and, and_false, true_or, or_true, false_or, or_false, if_true, if_false, Int.reduceAdd, Int.reduceMul, Int.reduceSub, Int.reduceNeg, g44, g46, v1, R_89_0, R_89_4, R_89_11, R_89_13, R_89_22, R_89_25, R_89_32, R_89_34, R_89_38, R_89_44, R_89_50, R_89_52, R_89_59, R_89_66, R_89_75, R_89_79, R_89_93, R_89_96, R_89_103, R_89_119, R_89_125, R_89_128, R_89_130, R_89_136, C_89_35, C_89_122]
                exact q1
              · obtain ⟨q, q1, q2⟩ := j2 hk
                try dsimp only [Wi_e1, Wi_e2, Okt_e1, Okt_e2, Lab_e1, Lab_e2, OwL_e1, OwL_e2]
                refine ⟨q, ?_, q2⟩
                rw [R_89_82 (h0 := by omega) (h1 := by omega)]
                simp (disch := first | omega | exact q_b_01 _) only [↓reduceIte, q_bk0, q_bk1, q_bk2, q_sg_b, q_b_0, q_b_n0, q_b_1, q_b_n1, q_b_T, q_b_F, q_sg_g, q_sg_sg, q_sg_xs, q_sg_id, q_gu_ne, q_gu_eq, q_g_fne, q_g_cpe, q_w_f, q_v_f, q_u_f, q_fn_f, q_cp_f, q_sg_pg, q_sg_hc, q_lt_t, q_lt_f, q_le_t, q_le_f, q_eq_t, q_eq_f, ne_eq, eq_self, Bool.false_eq_true, Bool.true_eq_false, not_true_eq_false, not_false_eq_true, true_and, and_true, false_and, and_false, true_or, or_true, false_or, or_false, if_true, if_false, Int.reduceAdd, Int.reduceMul, Int.reduceSub, Int.reduceNeg, g44, g46, v1, R_89_0, R_89_4, R_89_11, R_89_13, R_89_22, R_89_25, R_89_32, R_89_34, R_89_38, R_89_44, R_89_50, R_89_52, R_89_59, R_89_66, R_89_75, R_89_79, R_89_93, R_89_96, R_89_103, R_89_119, R_89_125, R_89_128, R_89_130, R_89_136, C_89_35, C_89_122]
                exact q1
            · obtain ⟨v, v1, v2⟩ := i2 (by omega)
              try dsimp only [Wi_e1, Wi_e2, Okt_e1, Okt_e2, Lab_e1, Lab_e2, OwL_e1, OwL_e2]
              refine ⟨fun hk => by omega, fun hk => ⟨v, ?_, Fq_trans p8 v2⟩⟩
              rw [R_89_82 (h0 := by omega) (h1 := by omega)]
              simp (disch := first | omega | exact q_b_01 _) only [↓reduceIte, q_bk0, q_bk1, q_bk2, q_sg_b, q_b_0, q_b_n0, q_b_1, q_b_n1, q_b_T, q_b_F, q_sg_g, q_sg_sg, q_sg_xs, q_sg_id, q_gu_ne, q_gu_eq, q_g_fne, q_g_cpe, q_w_f, q_v_f, q_u_f, q_fn_f, q_cp_f, q_sg_pg, q_sg_hc, q_lt_t, q_lt_f, q_le_t, q_le_f, q_eq_t, q_eq_f, ne_eq, eq_self, Bool.false_eq_true, Bool.true_eq_false, not_true_eq_false, not_false_eq_true, true_and, and_true, false_and, and_false, true_or, or_true, false_or, or_false, if_true, if_false, Int.reduceAdd, Int.reduceMul, Int.reduceSub, Int.reduceNeg, g44, g46, v1, R_89_0, R_89_4, R_89_11, R_89_13, R_89_22, R_89_25, R_89_32, R_89_34, R_89_38, R_89_44, R_89_50, R_89_52, R_89_59, R_89_66, R_89_75, R_89_79, R_89_93, R_89_96, R_89_103, R_89_119, R_89_125, R_89_128, R_89_130, R_89_136, C_89_35, C_89_122]
        have g43 : q_g u 243 x = 2 := by
          show (u 243 x).toInt = 2
          rw [u3 243 x (by omega) (by omega) (by omega)]
          exact r1
        have P0 : PCl m F s n cc k x 0 (q_u (q_u u 254 (tp m k) x) 255 x (tp m k)) := by
          have e0 : k + 1 + smz (fun i => cN (cc i)) (0 : Int).toNat = k + 1 := by
            show k + 1 + 0 = k + 1
            omega
          obtain ⟨c1, c2, c3, c4, c5⟩ := u2
          try dsimp only [Wi_e1, Wi_e2, Okt_e1, Okt_e2, Lab_e1, Lab_e2, OwL_e1, OwL_e2]
          refine ⟨?_, by omega, fun i i0 i1 => by omega, ?_, ?_, fun z z1 z2 => ?_, fun q hq => ?_, fun k z h1 h2 h3 h4 h5 => ?_⟩
          · rw [e0]
            exact ⟨fun p p0 p1 => by rw [q_gu_ne (by omega), q_gu_ne (by omega)]; exact c1 p p0 p1, by rw [q_gu_ne (by omega), q_gu_ne (by omega)]; exact c2, by rw [q_gu_ne (by omega), q_gu_ne (by omega)]; exact c3, by rw [q_gu_ne (by omega), q_gu_ne (by omega)]; exact c4, by rw [q_gu_ne (by omega), q_gu_ne (by omega)]; exact c5⟩
          · rw [q_gu_eq rfl, q_sg_id (by omega) (by omega)]
          · rw [q_gu_ne (by omega), q_gu_eq rfl, q_sg_id (by omega) (by omega)]
          · rw [q_u_n (by omega), q_u_n (by omega), u3 255 z (by omega) (by omega) (by omega)]
          · have := hq k (by omega) (by omega)
            rw [q_u_n (by omega), q_u_n (by omega), u3 254 q (by omega) (by omega) (by omega)]
          · rw [q_u_n (by omega), q_u_n (by omega), u3 k z h1 h2 h3]
        have pre : EV (d + (h' + 1) + 1) 89 0 [.ref 241, .int (q_I (x)), .int (q_I (lvl)), .null, .null] [] (q_h L xs s O c) = EV (d + h' + 1 + 1) 89 82 [.ref 241, .int (q_I (x)), .int (q_I (lvl)), .int (q_I (tp m k)), .int (q_I (0))] [] (q_h L xs (q_u (q_u u 254 (tp m k) x) 255 x (tp m k)) O c) := by
          rw [show d + (h' + 1) + 1 = d + h' + 1 + 1 by omega]
          simp (disch := first | omega | exact q_b_01 _) only [↓reduceIte, q_bk0, q_bk1, q_bk2, q_sg_b, q_b_0, q_b_n0, q_b_1, q_b_n1, q_b_T, q_b_F, q_sg_g, q_sg_sg, q_sg_xs, q_sg_id, q_gu_ne, q_gu_eq, q_g_fne, q_g_cpe, q_w_f, q_v_f, q_u_f, q_fn_f, q_cp_f, q_sg_pg, q_sg_hc, q_lt_t, q_lt_f, q_le_t, q_le_f, q_eq_t, q_eq_f, ne_eq, eq_self, Bool.false_eq_true, Bool.true_eq_false, not_true_eq_false, not_false_eq_true, true_and, and_true, false_and, and_false, true_or, or_true, false_or, or_false, if_true, if_false, Int.reduceAdd, Int.reduceMul, Int.reduceSub, Int.reduceNeg, f1, u1, g43, R_89_0, R_89_4, R_89_11, R_89_13, R_89_22, R_89_25, R_89_32, R_89_34, R_89_38, R_89_44, R_89_50, R_89_52, R_89_59, R_89_66, R_89_75, R_89_79, R_89_93, R_89_96, R_89_103, R_89_119, R_89_125, R_89_128, R_89_130, R_89_136, C_89_35, C_89_122]
        obtain ⟨j1, j2⟩ := loop n.toNat 0 _ (by omega) (by omega) P0
        try dsimp only [Wi_e1, Wi_e2, Okt_e1, Okt_e2, Lab_e1, Lab_e2, OwL_e1, OwL_e2]
        refine ⟨fun hk => ?_, fun hk => ?_⟩
        · obtain ⟨v, v1, p1, p2, p3, p4, p5, p6, p7, p8⟩ := j1 hk
          rw [show k + 1 + smz (fun i => cN (cc i)) n.toNat = k + (1 + smz (fun i => cN (cc i)) n.toNat) by omega] at p1 p7
          try dsimp only [Wi_e1, Wi_e2, Okt_e1, Okt_e2, Lab_e1, Lab_e2, OwL_e1, OwL_e2]
          refine ⟨v, pre.trans v1, p1, ⟨by rw [if_pos hp]; exact p4, fun _ j j0 j1 => (p3 j j0 j1).1⟩, fun _ => ⟨p5, fun j j0 j1 => (p3 j j0 j1).2⟩, fun z hz => p6 z (fun e => hz (Or.inl e)) (fun i i0 i1 hw => hz (Or.inr ⟨i, i0, i1, hw⟩)), p7, p8⟩
        · obtain ⟨v, v1, v2⟩ := j2 hk
          exact ⟨v, pre.trans v1, v2⟩
      · obtain ⟨u, u1, u2⟩ := t2 (by omega)
        try dsimp only [Wi_e1, Wi_e2, Okt_e1, Okt_e2, Lab_e1, Lab_e2, OwL_e1, OwL_e2]
        refine ⟨fun hk => by omega, fun hk => ⟨u, ?_, Ft_Fq u2⟩⟩
        rw [show d + (h' + 1) + 1 = d + h' + 1 + 1 by omega]
        simp (disch := first | omega | exact q_b_01 _) only [↓reduceIte, q_bk0, q_bk1, q_bk2, q_sg_b, q_b_0, q_b_n0, q_b_1, q_b_n1, q_b_T, q_b_F, q_sg_g, q_sg_sg, q_sg_xs, q_sg_id, q_gu_ne, q_gu_eq, q_g_fne, q_g_cpe, q_w_f, q_v_f, q_u_f, q_fn_f, q_cp_f, q_sg_pg, q_sg_hc, q_lt_t, q_lt_f, q_le_t, q_le_f, q_eq_t, q_eq_f, ne_eq, eq_self, Bool.false_eq_true, Bool.true_eq_false, not_true_eq_false, not_false_eq_true, true_and, and_true, false_and, and_false, true_or, or_true, false_or, or_false, if_true, if_false, Int.reduceAdd, Int.reduceMul, Int.reduceSub, Int.reduceNeg, f1, u1, R_89_0, R_89_4, R_89_11, R_89_13, R_89_22, R_89_25, R_89_32, R_89_34, R_89_38, R_89_44, R_89_50, R_89_52, R_89_59, R_89_66, R_89_75, R_89_79, R_89_82, R_89_93, R_89_96, R_89_103, R_89_119, R_89_125, R_89_128, R_89_130, R_89_136, C_89_35, C_89_122]
    · have f0 : q_g s 247 x = 0 ∧ p = x := by
        rcases r5 with ⟨f, e⟩ | ⟨f, e⟩
        · exact ⟨f, e⟩
        · exact absurd e hp
      have ec : cN (.br p n a cc) = 0 := by
        rw [cN_e2]
        rw [if_neg hp]
      rw [ec]
      try dsimp only [Wi_e1, Wi_e2, Okt_e1, Okt_e2, Lab_e1, Lab_e2, OwL_e1, OwL_e2]
      refine ⟨fun hk => ⟨q_u s 255 x x, ?_, ?_, ⟨?_, fun q => absurd q hp⟩, fun q => absurd q hp, ?_, ?_, ?_⟩, fun hk => by omega⟩
      · simp (disch := first | omega | exact q_b_01 _) only [↓reduceIte, q_bk0, q_bk1, q_bk2, q_sg_b, q_b_0, q_b_n0, q_b_1, q_b_n1, q_b_T, q_b_F, q_sg_g, q_sg_sg, q_sg_xs, q_sg_id, q_gu_ne, q_gu_eq, q_g_fne, q_g_cpe, q_w_f, q_v_f, q_u_f, q_fn_f, q_cp_f, q_sg_pg, q_sg_hc, q_lt_t, q_lt_f, q_le_t, q_le_f, q_eq_t, q_eq_f, ne_eq, eq_self, Bool.false_eq_true, Bool.true_eq_false, not_true_eq_false, not_false_eq_true, true_and, and_true, false_and, and_false, true_or, or_true, false_or, or_false, if_true, if_false, Int.reduceAdd, Int.reduceMul, Int.reduceSub, Int.reduceNeg, f0.1, R_89_0, R_89_4, R_89_11, R_89_13, R_89_22, R_89_25, R_89_32, R_89_34, R_89_38, R_89_44, R_89_50, R_89_52, R_89_59, R_89_66, R_89_75, R_89_79, R_89_82, R_89_93, R_89_96, R_89_103, R_89_119, R_89_125, R_89_128, R_89_130, R_89_136, C_89_35, C_89_122]
      · rw [Int.add_zero]
        obtain ⟨c1, c2, c3, c4, c5⟩ := C
        exact ⟨fun p p0 p1 => by rw [q_gu_ne (by omega)]; exact c1 p p0 p1, by rw [q_gu_ne (by omega)]; exact c2, by rw [q_gu_ne (by omega)]; exact c3, by rw [q_gu_ne (by omega)]; exact c4, by rw [q_gu_ne (by omega)]; exact c5⟩
      · rw [if_neg hp, q_gu_eq rfl, q_sg_id (by omega) (by omega), f0.2]
      · intro z hz
        have : z ≠ x := fun e => hz (Or.inl e)
        rw [q_u_n (by omega)]
      · intro q hq
        rw [q_u_n (by omega)]
      · intro k z h1 h2 h3 h4 h5
        rw [q_u_n (by omega)]
end CPL
