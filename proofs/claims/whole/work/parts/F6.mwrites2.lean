/-! THE REFERENCE: all new nodes as they will be written -/
section MW2
variable {d L : Nat} {xs : Nat → Int32} {O : Nat → Int64} {c : Bool × Nat × Nat} {m : Int → Int} {N : Int}
/-- pages of nodes k .. e are touched alone -/
noncomputable def Fw (m : Int → Int) (k e : Int) (s u : Nat → Int → Int32) : Prop := (∀ z, (∀ i, k ≤ i → i < e → ¬ (16 * tp m i ≤ z ∧ z < 16 * tp m i + 16)) → u 305 z = s 305 z) ∧ ∀ k z, k ≠ 305 → u k z = s k z
theorem Fw_dM {s u : Nat → Int → Int32} (h : ∀ k z, k ≠ 305 → u k z = s k z) : dM u = dM s := dM_c (fun k h1 h2 => funext fun z => h k z (by omega))
theorem Fw_pf {s u : Nat → Int → Int32} (h : ∀ k z, k ≠ 305 → u k z = s k z) : pfM u = pfM s := by
  funext x
  unfold pfM
  split
  · rfl
  · show (u 298 x).toInt = _
    rw [h 298 x (by omega)]
    rfl
theorem mm_writesN (I : TkI m) : ∀ {t : Tr} {h : Nat} {lo hi : Int} (x k : Int) (s : Nat → Int → Int32), Okt t h lo hi → Sub (dM s) N t x → N ≤ 240 → Lab (dM s) (tp m) (pfM s) t k x → 0 ≤ k → k + cN t ≤ cap m → ∃ u, EV (d + h + 2) 275 0 [.ref 285, .int (q_I (x)), .null, .null, .null] [] (q_h L xs s O c) = some (.inl none, q_h L xs (u) O c) ∧ PlN (tp m) (q_g u 305) t k ∧ Fw m k (k + cN t) s u := by
  intro t
  induction t using Tr_rc generalizing d with
  | lf p n a b =>
    try dsimp only [Okt_e1, Okt_e2, Lab_e1, Lab_e2, PlN_e1, PlN_e2] at *
    intro h lo hi x k s o S hN lb k0 kc
    have xr := S.2.2 x rfl
    have eh := o.1
    have n4 := o.2.2.1
    have n1 := o.2.1
    subst eh
    obtain ⟨r1, r2, r3, r4, r5, r6⟩ := Sub_R1 S
    have r1 : q_g s 294 x = 1 := r1
    have r2 : q_g s 295 x = n := r2
    have is := mm_isNew (d := d + 1) (L := L) (xs := xs) (s := s) (O := O) (c := c) (y := x)
    by_cases hp : p = -1
    · have f1 : 48 ≤ x := by
        rcases r5 with ⟨f, e⟩ | ⟨f, e⟩
        · omega
        · have f : (if x < 48 then (0 : Int) else 1) = 1 := f
          split at f <;> omega
      have ec : cN (.lf p n a b) = 1 := by
        rw [cN_e1]
        rw [if_pos hp]
      rw [ec] at kc ⊢
      rw [q_bt (by rw [q_sg_id (by omega) (by omega)]; exact f1)] at is
      have pg98 : q_g s 298 x = tp m k := by
        have := Lab_pg (show Lab (dM s) (tp m) (pfM s) (.lf p n a b) k x from lb)
        unfold pfM pgK at this
        rw [if_neg (by omega)] at this
        rw [this]
        exact if_pos hp
      have tr := tp_rg I k0 (by omega)
      generalize hM : q_u (q_u (q_u s 305 (16 * tp m k + 0) 1) 305 (16 * tp m k + 1) n) 305 (16 * tp m k + 3) (-1) = M
      have Mg : ∀ k z, k ≠ 305 → q_g M k z = q_g s k z := fun k z hk => by rw [← hM, q_gu_ne (by omega), q_gu_ne (by omega), q_gu_ne (by omega)]
      have M0 : q_g (q_u s 305 (16 * tp m k + 0) 1) 295 x = n := by rw [q_gu_ne (by omega), r2]
      obtain ⟨u, y4, u1, u2, u3, u4⟩ := mm_cells (d := d) (L := L) (xs := xs) (O := O) (c := c) (s := M) (x := x) (q := 16 * tp m k) (n := n) (K := 1) (V := b) (by omega) (by omega) (by omega) (by omega) (by rw [Mg 294 x (by omega), r1]) (by rw [Mg 295 x (by omega), r2]) (by omega) (by omega) (fun j j0 j1 => ⟨fun q => by omega, fun _ => by rw [Mg 297 _ (by omega)]; exact (r6 j j0 j1).2⟩) .null
      have u94 : q_g u 294 x = 1 := by
        show (u 294 x).toInt = 1
        rw [u4 294 x (by omega)]
        show q_g M 294 x = 1
        rw [Mg 294 x (by omega), r1]
      have u95 : q_g u 295 x = n := by
        show (u 295 x).toInt = n
        rw [u4 295 x (by omega)]
        show q_g M 295 x = n
        rw [Mg 295 x (by omega), r2]
      try dsimp only [Okt_e1, Okt_e2, Lab_e1, Lab_e2, PlN_e1, PlN_e2]
      refine ⟨u, ?_, fun _ => ⟨?_, ?_, ?_, fun i i0 i1 => ?_⟩, fun z hz => ?_, fun k z hk => ?_⟩
      · simp (disch := first | omega | exact q_b_01 _) only [↓reduceIte, q_bk0, q_bk1, q_bk2, q_sg_b, q_b_0, q_b_n0, q_b_1, q_b_n1, q_b_T, q_b_F, q_sg_g, q_sg_sg, q_sg_xs, q_sg_id, q_gu_ne, q_gu_eq, q_g_fne, q_g_cpe, q_w_f, q_v_f, q_u_f, q_fn_f, q_cp_f, q_sg_pg, q_sg_hc, q_lt_t, q_lt_f, q_le_t, q_le_f, q_eq_t, q_eq_f, ne_eq, eq_self, Bool.false_eq_true, Bool.true_eq_false, not_true_eq_false, not_false_eq_true, true_and, and_true, false_and, and_false, true_or, or_true, false_or, or_false, if_true, if_false, Int.reduceAdd, Int.reduceMul, Int.reduceSub, Int.reduceNeg, is, pg98, r1, M0, hM, R_275_0, R_275_4, R_275_7, R_275_8, R_275_16, R_275_31, R_275_32, R_275_45, R_275_46, R_275_55, R_275_63, R_275_70, R_275_73, R_275_77, R_275_78, R_275_94, R_275_100, R_275_103, R_275_104, R_275_105, R_275_120, R_275_124, R_275_130, R_275_134, R_275_144, R_275_147, R_275_153, R_275_154, R_275_160, R_275_169, R_275_172, R_275_178, R_275_182, R_275_192, R_275_198, C_275_1, C_275_97, C_275_138, C_275_141, C_275_150, C_275_186, C_275_189]
        rw [u1]
        simp (disch := first | omega | exact q_b_01 _) only [↓reduceIte, q_bk0, q_bk1, q_bk2, q_sg_b, q_b_0, q_b_n0, q_b_1, q_b_n1, q_b_T, q_b_F, q_sg_g, q_sg_sg, q_sg_xs, q_sg_id, q_gu_ne, q_gu_eq, q_g_fne, q_g_cpe, q_w_f, q_v_f, q_u_f, q_fn_f, q_cp_f, q_sg_pg, q_sg_hc, q_lt_t, q_lt_f, q_le_t, q_le_f, q_eq_t, q_eq_f, ne_eq, eq_self, Bool.false_eq_true, Bool.true_eq_false, not_true_eq_false, not_false_eq_true, true_and, and_true, false_and, and_false, true_or, or_true, false_or, or_false, if_true, if_false, Int.reduceAdd, Int.reduceMul, Int.reduceSub, Int.reduceNeg, R_275_160]
        rw [R_275_162 (h0 := by omega) (h1 := by omega)]
        simp (disch := first | omega | exact q_b_01 _) only [↓reduceIte, q_bk0, q_bk1, q_bk2, q_sg_b, q_b_0, q_b_n0, q_b_1, q_b_n1, q_b_T, q_b_F, q_sg_g, q_sg_sg, q_sg_xs, q_sg_id, q_gu_ne, q_gu_eq, q_g_fne, q_g_cpe, q_w_f, q_v_f, q_u_f, q_fn_f, q_cp_f, q_sg_pg, q_sg_hc, q_lt_t, q_lt_f, q_le_t, q_le_f, q_eq_t, q_eq_f, ne_eq, eq_self, Bool.false_eq_true, Bool.true_eq_false, not_true_eq_false, not_false_eq_true, true_and, and_true, false_and, and_false, true_or, or_true, false_or, or_false, if_true, if_false, Int.reduceAdd, Int.reduceMul, Int.reduceSub, Int.reduceNeg, u94, u95, R_275_0, R_275_4, R_275_7, R_275_8, R_275_16, R_275_31, R_275_32, R_275_45, R_275_46, R_275_55, R_275_63, R_275_70, R_275_73, R_275_77, R_275_78, R_275_94, R_275_100, R_275_103, R_275_104, R_275_105, R_275_120, R_275_124, R_275_130, R_275_134, R_275_144, R_275_147, R_275_153, R_275_154, R_275_160, R_275_169, R_275_172, R_275_178, R_275_182, R_275_192, R_275_198, C_275_1, C_275_97, C_275_138, C_275_141, C_275_150, C_275_186, C_275_189]
      · show (u 305 (16 * tp m k)).toInt = 1
        rw [u3 _ (by omega)]
        show q_g M 305 (16 * tp m k) = 1
        rw [← hM, q_gu_ne (by omega), q_gu_ne (by omega), q_gu_eq (by omega)]
        rfl
      · show (u 305 (16 * tp m k + 1)).toInt = n
        rw [u3 _ (by omega)]
        show q_g M 305 (16 * tp m k + 1) = n
        rw [← hM, q_gu_ne (by omega), q_gu_eq (by omega), q_sg_id (by omega) (by omega)]
      · show (u 305 (16 * tp m k + 3)).toInt = -1
        rw [u3 _ (by omega)]
        show q_g M 305 (16 * tp m k + 3) = -1
        rw [← hM, q_gu_eq (by omega)]
        rfl
      · obtain ⟨y1, y2⟩ := u2 i i0 i1
        obtain ⟨z1, z2⟩ := r6 i i0 i1
        have br := q_g_rg s 297 (6 * x + i)
        have z2 : q_g s 297 (6 * x + i) = b i := z2
        rw [z2] at br
        rw [Mg 296 _ (by omega)] at y1
        rw [q_sg_id br.1 br.2] at y2
        exact ⟨y1.trans z1, y2⟩
      · have hz' := hz k (by omega) (by omega)
        rw [u3 z (by omega), ← hM, q_u_n (by omega), q_u_n (by omega), q_u_n (by omega)]
      · rw [u4 k z hk, ← hM, q_u_n (by omega), q_u_n (by omega), q_u_n (by omega)]
    · have f0 : x < 48 := by
        rcases r5 with ⟨f, e⟩ | ⟨f, e⟩
        · have f : (if x < 48 then (0 : Int) else 1) = 0 := f
          split at f <;> omega
        · exact absurd e hp
      rw [q_bf (by rw [q_sg_id (by omega) (by omega)]; omega)] at is
      try dsimp only [Okt_e1, Okt_e2, Lab_e1, Lab_e2, PlN_e1, PlN_e2]
      refine ⟨s, ?_, fun q => absurd q hp, fun z hz => rfl, fun k z hk => rfl⟩
      simp (disch := first | omega | exact q_b_01 _) only [↓reduceIte, q_bk0, q_bk1, q_bk2, q_sg_b, q_b_0, q_b_n0, q_b_1, q_b_n1, q_b_T, q_b_F, q_sg_g, q_sg_sg, q_sg_xs, q_sg_id, q_gu_ne, q_gu_eq, q_g_fne, q_g_cpe, q_w_f, q_v_f, q_u_f, q_fn_f, q_cp_f, q_sg_pg, q_sg_hc, q_lt_t, q_lt_f, q_le_t, q_le_f, q_eq_t, q_eq_f, ne_eq, eq_self, Bool.false_eq_true, Bool.true_eq_false, not_true_eq_false, not_false_eq_true, true_and, and_true, false_and, and_false, true_or, or_true, false_or, or_false, if_true, if_false, Int.reduceAdd, Int.reduceMul, Int.reduceSub, Int.reduceNeg, is, R_275_0, R_275_4, R_275_7, R_275_8, R_275_16, R_275_31, R_275_32, R_275_45, R_275_46, R_275_55, R_275_63, R_275_70, R_275_73, R_275_77, R_275_78, R_275_94, R_275_100, R_275_103, R_275_104, R_275_105, R_275_120, R_275_124, R_275_130, R_275_134, R_275_144, R_275_147, R_275_153, R_275_154, R_275_160, R_275_169, R_275_172, R_275_178, R_275_182, R_275_192, R_275_198, C_275_1, C_275_97, C_275_138, C_275_141, C_275_150, C_275_186, C_275_189]
  | br p n a cc ih =>
    try dsimp only [Okt_e1, Okt_e2, Lab_e1, Lab_e2, PlN_e1, PlN_e2] at *
    intro h lo hi x k s o S hN lb k0 kc
    have xr := S.2.2 x (Or.inl rfl)
    obtain ⟨h', eh, n0, n4, ok⟩ := o
    subst eh
    obtain ⟨r1, r2, r3, r4, r5, r6⟩ := Sub_R2 S
    have r1 : q_g s 294 x = 2 := r1
    have r2 : q_g s 295 x = n := r2
    have ed : d + (h' + 1) + 2 = d + h' + 1 + 2 := by omega
    have is := mm_isNew (d := d + h' + 1 + 1) (L := L) (xs := xs) (s := s) (O := O) (c := c) (y := x)
    by_cases hp : p = -1
    · have f1 : 48 ≤ x := by
        rcases r5 with ⟨f, e⟩ | ⟨f, e⟩
        · omega
        · have f : (if x < 48 then (0 : Int) else 1) = 1 := f
          split at f <;> omega
      have ec : cN (.br p n a cc) = 1 + smz (fun i => cN (cc i)) n.toNat := by
        rw [cN_e2]
        rw [if_pos hp]
      have s0 := smz_0 (f := fun k => cN (cc k)) (n := n.toNat) (fun k _ _ => cN_0 (cc k))
      rw [ec] at kc ⊢
      rw [q_bt (by rw [q_sg_id (by omega) (by omega)]; exact f1)] at is
      have lk := lb.2 hp
      have pg98 : q_g s 298 x = tp m k := by
        have := Lab_pg (show Lab (dM s) (tp m) (pfM s) (.br p n a cc) k x from lb)
        unfold pfM pgK at this
        rw [if_neg (by omega)] at this
        rw [this]
        exact if_pos hp
      have tr := tp_rg I k0 (by omega)
      generalize hM : q_u (q_u (q_u s 305 (16 * tp m k + 0) 2) 305 (16 * tp m k + 1) n) 305 (16 * tp m k + 3) (-1) = M
      have Mg : ∀ k z, k ≠ 305 → q_g M k z = q_g s k z := fun k z hk => by rw [← hM, q_gu_ne (by omega), q_gu_ne (by omega), q_gu_ne (by omega)]
      have Mp : ∀ y, pfM M y = pfM s y := fun y => by
        unfold pfM
        rw [Mg 298 y (by omega)]
      have M0 : q_g (q_u s 305 (16 * tp m k + 0) 2) 295 x = n := by rw [q_gu_ne (by omega), r2]
      have kidR : ∀ j, 0 ≤ j → j < n → 2 ≤ q_g s 297 (6 * x + j) ∧ q_g s 297 (6 * x + j) < 240 := fun j j0 j1 => by
        have := (Sub_kid S j0 j1).2.2 _ (Wi_self _ _ _)
        have e : (dM s).B x j = q_g s 297 (6 * x + j) := rfl
        omega
      obtain ⟨u, y4, u1, u2, u3, u4⟩ := mm_cells (d := d + h' + 1) (L := L) (xs := xs) (O := O) (c := c) (s := M) (x := x) (q := 16 * tp m k) (n := n) (K := 2) (V := fun j => pgK (tp m) (cc j) (k + 1 + smz (fun i => cN (cc i)) j.toNat)) (by omega) (by omega) (by omega) (by omega) (by rw [Mg 294 x (by omega), r1]) (by rw [Mg 295 x (by omega), r2]) (by omega) (by omega) (fun j j0 j1 => ⟨fun _ => by
        rw [Mg 297 _ (by omega), Mp]
        exact ⟨(kidR j j0 j1).1, (kidR j j0 j1).2, Lab_pg (lk j j0 j1)⟩, fun q => absurd rfl q⟩) .null
      have ue : ∀ k z, k ≠ 305 → u k z = s k z := fun k z hk => by rw [u4 k z hk, ← hM, q_u_n (by omega), q_u_n (by omega), q_u_n (by omega)]
      have loop : ∀ (f : Nat) (j : Int) (w : Nat → Int → Int32), n - j = f → 0 ≤ j → ((∀ i, 0 ≤ i → i < j → PlN (tp m) (q_g w 305) (cc i) (k + 1 + smz (fun i => cN (cc i)) i.toNat)) ∧ (∀ e, 0 ≤ e → e < 16 → q_g w 305 (16 * tp m k + e) = q_g u 305 (16 * tp m k + e)) ∧ Fw m k (k + (1 + smz (fun i => cN (cc i)) n.toNat)) s w) → ∃ v, EV (d + h' + 1 + 2) 275 162 [.ref 285, .int (q_I (x)), .int (q_I (16 * tp m k)), .int (q_I (j)), y4] [] (q_h L xs (w) O c) = some (.inl none, q_h L xs (v) O c) ∧ ((∀ i, 0 ≤ i → i < n → PlN (tp m) (q_g v 305) (cc i) (k + 1 + smz (fun i => cN (cc i)) i.toNat)) ∧ (∀ e, 0 ≤ e → e < 16 → q_g v 305 (16 * tp m k + e) = q_g u 305 (16 * tp m k + e)) ∧ Fw m k (k + (1 + smz (fun i => cN (cc i)) n.toNat)) s v) := by
        intro f
        induction f with
        | zero =>
          intro j w hj j0 P
          have ej : j = n := by omega
          subst ej
          have g95 : q_g w 295 x = j := by
            show (w 295 x).toInt = j
            rw [P.2.2.2 295 x (by omega)]
            exact r2
          try dsimp only [Okt_e1, Okt_e2, Lab_e1, Lab_e2, PlN_e1, PlN_e2]
          refine ⟨w, ?_, P⟩
          rw [R_275_162 (h0 := by omega) (h1 := by omega)]
          simp (disch := first | omega | exact q_b_01 _) only [↓reduceIte, q_bk0, q_bk1, q_bk2, q_sg_b, q_b_0, q_b_n0, q_b_1, q_b_n1, q_b_T, q_b_F, q_sg_g, q_sg_sg, q_sg_xs, q_sg_id, q_gu_ne, q_gu_eq, q_g_fne, q_g_cpe, q_w_f, q_v_f, q_u_f, q_fn_f, q_cp_f, q_sg_pg, q_sg_hc, q_lt_t, q_lt_f, q_le_t, q_le_f, q_eq_t, q_eq_f, ne_eq, eq_self, Bool.false_eq_true, Bool.true_eq_false, not_true_eq_false, not_false_eq_true, true_and, and_true, false_and, and_false, true_or, or_true, false_or, or_false, if_true, if_false, Int.reduceAdd, Int.reduceMul, Int.reduceSub, Int.reduceNeg, g95, R_275_0, R_275_4, R_275_7, R_275_8, R_275_16, R_275_31, R_275_32, R_275_45, R_275_46, R_275_55, R_275_63, R_275_70, R_275_73, R_275_77, R_275_78, R_275_94, R_275_100, R_275_103, R_275_104, R_275_105, R_275_120, R_275_124, R_275_130, R_275_134, R_275_144, R_275_147, R_275_153, R_275_154, R_275_160, R_275_169, R_275_172, R_275_178, R_275_182, R_275_192, R_275_198, C_275_1, C_275_97, C_275_138, C_275_141, C_275_150, C_275_186, C_275_189]
        | succ f jh =>
          intro j w hj j0 P
          obtain ⟨p1, p2, p3, p4⟩ := P
          have gw : ∀ k z, k ≠ 305 → q_g w k z = q_g s k z := fun k z hk => by
            show (w k z).toInt = _
            rw [p4 k z hk]
            rfl
          have g95 : q_g w 295 x = n := by rw [gw 295 x (by omega), r2]
          have g94 : q_g w 294 x = 2 := by rw [gw 294 x (by omega), r1]
          have g97 : q_g w 297 (6 * x + j) = (dM s).B x j := gw 297 _ (by omega)
          have Sk := Sub_kid S j0 (show j < n by omega)
          have ol := off_le (c := cc) (n := n) j0 (by omega)
          have cj := cN_0 (cc j)
          have eD := Fw_dM p4
          have eP := Fw_pf p4
          obtain ⟨v, v1, v2, v3, v4⟩ := ih j (d := d) ((dM s).B x j) (k + 1 + smz (fun i => cN (cc i)) j.toNat) w (ok j j0 (by omega)).2.2 (by rw [eD]; exact Sk) hN (by rw [eD, eP]; exact lk j j0 (by omega)) (by omega) (by omega)
          have keep : ∀ i, 0 ≤ i → i < cap m → ¬ (k + 1 + smz (fun i => cN (cc i)) j.toNat ≤ i ∧ i < k + 1 + smz (fun i => cN (cc i)) j.toNat + cN (cc j)) → ∀ e, 0 ≤ e → e < 16 → q_g v 305 (16 * tp m i + e) = q_g w 305 (16 * tp m i + e) := fun i i0 i1 hi e e0 e1 => by
            show (v 305 (16 * tp m i + e)).toInt = _
            rw [v3 _ (fun i' a0 a1 hz => by
              have ne : tp m i ≠ tp m i' := fun q => by
                have := tp_inj' I i0 i1 (by omega) (by omega) q
                omega
              omega)]
            rfl
          obtain ⟨q, q1, q2⟩ := jh (j + 1) v (by omega) (by omega) ⟨fun i i0 i1 => by
            by_cases e : i = j
            · subst e
              exact v2
            · have oi := off_le (c := cc) (n := j) i0 (by omega)
              exact PlN_fr (ok i i0 (by omega)).2.2 (p1 i i0 (by omega)) (fun i' a0 a1 e e0 e1 => keep i' (by omega) (by omega) (by omega) e e0 e1), fun e e0 e1 => by rw [keep k k0 (by omega) (by omega) e e0 e1]; exact p2 e e0 e1, fun z hz => by rw [v3 z (fun i a0 a1 => hz i (by omega) (by omega)), p3 z hz], fun k z hk => by rw [v4 k z hk, p4 k z hk]⟩
          try dsimp only [Okt_e1, Okt_e2, Lab_e1, Lab_e2, PlN_e1, PlN_e2]
          refine ⟨q, ?_, q2⟩
          rw [R_275_162 (h0 := by omega) (h1 := by omega)]
          simp (disch := first | omega | exact q_b_01 _) only [↓reduceIte, q_bk0, q_bk1, q_bk2, q_sg_b, q_b_0, q_b_n0, q_b_1, q_b_n1, q_b_T, q_b_F, q_sg_g, q_sg_sg, q_sg_xs, q_sg_id, q_gu_ne, q_gu_eq, q_g_fne, q_g_cpe, q_w_f, q_v_f, q_u_f, q_fn_f, q_cp_f, q_sg_pg, q_sg_hc, q_lt_t, q_lt_f, q_le_t, q_le_f, q_eq_t, q_eq_f, ne_eq, eq_self, Bool.false_eq_true, Bool.true_eq_false, not_true_eq_false, not_false_eq_true, true_and, and_true, false_and, and_false, true_or, or_true, false_or, or_false, if_true, if_false, Int.reduceAdd, Int.reduceMul, Int.reduceSub, Int.reduceNeg, g94, g95, g97, mm_b, v1, R_275_0, R_275_4, R_275_7, R_275_8, R_275_16, R_275_31, R_275_32, R_275_45, R_275_46, R_275_55, R_275_63, R_275_70, R_275_73, R_275_77, R_275_78, R_275_94, R_275_100, R_275_103, R_275_104, R_275_105, R_275_120, R_275_124, R_275_130, R_275_134, R_275_144, R_275_147, R_275_153, R_275_154, R_275_160, R_275_169, R_275_172, R_275_178, R_275_182, R_275_192, R_275_198, C_275_1, C_275_97, C_275_138, C_275_141, C_275_150, C_275_186, C_275_189]
          exact q1
      obtain ⟨v, v1, v2, v3, v4, v5⟩ := loop n.toNat 0 u (by omega) (by omega) ⟨fun i i0 i1 => by omega, fun _ _ _ => rfl, fun z hz => by
        have hz' := hz k (by omega) (by omega)
        rw [u3 z (by omega), ← hM, q_u_n (by omega), q_u_n (by omega), q_u_n (by omega)], ue⟩
      have v30 := v3 0 (by omega) (by omega)
      rw [Int.add_zero] at v30
      try dsimp only [Okt_e1, Okt_e2, Lab_e1, Lab_e2, PlN_e1, PlN_e2]
      refine ⟨v, ?_, fun _ => ⟨⟨?_, ?_, ?_, fun i i0 i1 => ?_⟩, v2⟩, v4, v5⟩
      · rw [ed]
        simp (disch := first | omega | exact q_b_01 _) only [↓reduceIte, q_bk0, q_bk1, q_bk2, q_sg_b, q_b_0, q_b_n0, q_b_1, q_b_n1, q_b_T, q_b_F, q_sg_g, q_sg_sg, q_sg_xs, q_sg_id, q_gu_ne, q_gu_eq, q_g_fne, q_g_cpe, q_w_f, q_v_f, q_u_f, q_fn_f, q_cp_f, q_sg_pg, q_sg_hc, q_lt_t, q_lt_f, q_le_t, q_le_f, q_eq_t, q_eq_f, ne_eq, eq_self, Bool.false_eq_true, Bool.true_eq_false, not_true_eq_false, not_false_eq_true, true_and, and_true, false_and, and_false, true_or, or_true, false_or, or_false, if_true, if_false, Int.reduceAdd, Int.reduceMul, Int.reduceSub, Int.reduceNeg, is, pg98, r1, M0, hM, R_275_0, R_275_4, R_275_7, R_275_8, R_275_16, R_275_31, R_275_32, R_275_45, R_275_46, R_275_55, R_275_63, R_275_70, R_275_73, R_275_77, R_275_78, R_275_94, R_275_100, R_275_103, R_275_104, R_275_105, R_275_120, R_275_124, R_275_130, R_275_134, R_275_144, R_275_147, R_275_153, R_275_154, R_275_160, R_275_169, R_275_172, R_275_178, R_275_182, R_275_192, R_275_198, C_275_1, C_275_97, C_275_138, C_275_141, C_275_150, C_275_186, C_275_189]
        rw [u1]
        simp (disch := first | omega | exact q_b_01 _) only [↓reduceIte, q_bk0, q_bk1, q_bk2, q_sg_b, q_b_0, q_b_n0, q_b_1, q_b_n1, q_b_T, q_b_F, q_sg_g, q_sg_sg, q_sg_xs, q_sg_id, q_gu_ne, q_gu_eq, q_g_fne, q_g_cpe, q_w_f, q_v_f, q_u_f, q_fn_f, q_cp_f, q_sg_pg, q_sg_hc, q_lt_t, q_lt_f, q_le_t, q_le_f, q_eq_t, q_eq_f, ne_eq, eq_self, Bool.false_eq_true, Bool.true_eq_false, not_true_eq_false, not_false_eq_true, true_and, and_true, false_and, and_false, true_or, or_true, false_or, or_false, if_true, if_false, Int.reduceAdd, Int.reduceMul, Int.reduceSub, Int.reduceNeg, R_275_160]
        exact v1
      · rw [v30]
        show (u 305 (16 * tp m k)).toInt = 2
        rw [u3 _ (by omega)]
        show q_g M 305 (16 * tp m k) = 2
        rw [← hM, q_gu_ne (by omega), q_gu_ne (by omega), q_gu_eq (by omega)]
        rfl
      · rw [v3 1 (by omega) (by omega)]
        show (u 305 (16 * tp m k + 1)).toInt = n
        rw [u3 _ (by omega)]
        show q_g M 305 (16 * tp m k + 1) = n
        rw [← hM, q_gu_ne (by omega), q_gu_eq (by omega), q_sg_id (by omega) (by omega)]
      · rw [v3 3 (by omega) (by omega)]
        show (u 305 (16 * tp m k + 3)).toInt = -1
        rw [u3 _ (by omega)]
        show q_g M 305 (16 * tp m k + 3) = -1
        rw [← hM, q_gu_eq (by omega)]
        rfl
      · obtain ⟨y1, y2⟩ := u2 i i0 i1
        have z1 := (r6 i i0 i1).1
        rw [Mg 296 _ (by omega)] at y1
        rw [v3 (4 + i) (by omega) (by omega), v3 (10 + i) (by omega) (by omega)]
        have lp := Lab_pg (lk i i0 i1)
        have pr := q_g_rg s 298 ((dM s).B x i)
        have kr := kidR i i0 i1
        have bb : (dM s).B x i = q_g s 297 (6 * x + i) := rfl
        have ps : -2147483648 ≤ pfM s ((dM s).B x i) ∧ pfM s ((dM s).B x i) < 2147483648 := by
          unfold pfM
          split <;> omega
        rw [lp] at ps
        rw [q_sg_id ps.1 ps.2] at y2
        exact ⟨y1.trans z1, y2⟩
    · have f0 : x < 48 := by
        rcases r5 with ⟨f, e⟩ | ⟨f, e⟩
        · have f : (if x < 48 then (0 : Int) else 1) = 0 := f
          split at f <;> omega
        · exact absurd e hp
      rw [q_bf (by rw [q_sg_id (by omega) (by omega)]; omega)] at is
      try dsimp only [Okt_e1, Okt_e2, Lab_e1, Lab_e2, PlN_e1, PlN_e2]
      refine ⟨s, ?_, fun q => absurd q hp, fun z hz => rfl, fun k z hk => rfl⟩
      rw [ed]
      simp (disch := first | omega | exact q_b_01 _) only [↓reduceIte, q_bk0, q_bk1, q_bk2, q_sg_b, q_b_0, q_b_n0, q_b_1, q_b_n1, q_b_T, q_b_F, q_sg_g, q_sg_sg, q_sg_xs, q_sg_id, q_gu_ne, q_gu_eq, q_g_fne, q_g_cpe, q_w_f, q_v_f, q_u_f, q_fn_f, q_cp_f, q_sg_pg, q_sg_hc, q_lt_t, q_lt_f, q_le_t, q_le_f, q_eq_t, q_eq_f, ne_eq, eq_self, Bool.false_eq_true, Bool.true_eq_false, not_true_eq_false, not_false_eq_true, true_and, and_true, false_and, and_false, true_or, or_true, false_or, or_false, if_true, if_false, Int.reduceAdd, Int.reduceMul, Int.reduceSub, Int.reduceNeg, is, R_275_0, R_275_4, R_275_7, R_275_8, R_275_16, R_275_31, R_275_32, R_275_45, R_275_46, R_275_55, R_275_63, R_275_70, R_275_73, R_275_77, R_275_78, R_275_94, R_275_100, R_275_103, R_275_104, R_275_105, R_275_120, R_275_124, R_275_130, R_275_134, R_275_144, R_275_147, R_275_153, R_275_154, R_275_160, R_275_169, R_275_172, R_275_178, R_275_182, R_275_192, R_275_198, C_275_1, C_275_97, C_275_138, C_275_141, C_275_150, C_275_186, C_275_189]
end MW2
