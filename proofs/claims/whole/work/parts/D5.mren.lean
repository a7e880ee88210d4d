/-! THE REFERENCE: a node of the way is new -/
noncomputable def mrk : Tr → Tr := tr_rec (fun u0_ n a b => .lf (-1) n a b) (fun u0_ n a c r_  => .br (-1) n a c)
theorem mrk_e1 (u0_ n : Int) (a : Int → Int) (b : Int → Int) : mrk (.lf u0_ n a b) = (.lf (-1) n a b) := rfl
theorem mrk_e2 (u0_ n : Int) (a : Int → Int) (c : Int → Tr) : mrk (.br u0_ n a c) = (.br (-1) n a c) := rfl
section MRN
variable {d L : Nat} {xs : Nat → Int32} {s u : Nat → Int → Int32} {O : Nat → Int64} {c : Bool × Nat × Nat} {N y lo hi key : Int} {h : Nat} {t : Tr} {Lf : Int → Prop}
theorem mm_renewed2 (y0 : 48 ≤ y) (y1 : y < 240) : EV (d + 1) 260 0 [.ref 285, .int (q_I (y)), .null, .null] [] (q_h L xs s O c) = some (.inl (some (.int (q_I (y)))), q_h L xs (s) O c) := by
  simp (disch := first | omega | exact q_b_01 _) only [↓reduceIte, q_bk0, q_bk1, q_bk2, q_sg_b, q_b_0, q_b_n0, q_b_1, q_b_n1, q_b_T, q_b_F, q_sg_g, q_sg_sg, q_sg_xs, q_sg_id, q_gu_ne, q_gu_eq, q_g_fne, q_g_cpe, q_w_f, q_v_f, q_u_f, q_fn_f, q_cp_f, q_sg_pg, q_sg_hc, q_lt_t, q_lt_f, q_le_t, q_le_f, q_eq_t, q_eq_f, ne_eq, eq_self, Bool.false_eq_true, Bool.true_eq_false, not_true_eq_false, not_false_eq_true, true_and, and_true, false_and, and_false, true_or, or_true, false_or, or_false, if_true, if_false, Int.reduceAdd, Int.reduceMul, Int.reduceSub, Int.reduceNeg, mm_isNew, R_260_0, R_260_4, R_260_7, R_260_9, R_260_19, R_260_31, R_260_32, R_260_40, R_260_49, R_260_58, R_260_64, R_260_71, C_260_1, C_260_16, C_260_46, C_260_52, C_260_55]
/-- one node, renewed -/
theorem mm_rn1 (o : Okt t h lo hi) (S : Sub (dM s) N t y) (hN : q_g s 285 25 = N) (n0 : 48 ≤ N) (n1 : N + (if tpg t = -1 then 0 else 1) ≤ 240) (hl : LfM s Lf) : ∃ u y', EV (d + 1) 260 0 [.ref 285, .int (q_I (y)), .null, .null] [] (q_h L xs s O c) = some (.inl (some (.int (q_I (y')))), q_h L xs (u) O c) ∧ Sub (dM u) (q_g u 285 25) (mrk t) y' ∧ q_g u 285 25 = N + (if tpg t = -1 then 0 else 1) ∧ 48 ≤ y' ∧ (∀ z, Wi (dM u) (mrk t) y' z → Wi (dM s) t y z ∨ z = N) ∧ (∀ z, z < N → Row (dM s) (dM u) z) ∧ ((dM u).B y' = (dM s).B y ∨ ∀ k, 0 ≤ k → k < 6 → (dM u).B y' k = (dM s).B y k) ∧ LfM u (fun z => Lf z ∨ (tpg t ≠ -1 ∧ z = tpg t)) ∧ (y' = y ∨ y' = N) ∧ ∀ k z, ¬ (294 ≤ k ∧ k ≤ 297) → ¬ (k = 285 ∧ z = 25) → k ≠ 301 → u k z = s k z := by
  have yr := S.2.2 y (Wi_self (dM s) t y)
  have pg := Rep_pg S.1
  by_cases c48 : y < 48
  · have f0 : (dM s).fr y = 0 := if_pos c48
    have ep : tpg t = y := by
      rcases pg with ⟨f, e⟩ | ⟨f, e⟩
      · exact e
      · rw [f0] at f
        omega
    rw [if_neg (by omega)] at n1
    rw [if_neg (by omega)]
    obtain ⟨u, e1, e2, e3, e4, e5, e6, e7, e8⟩ := mm_renewed (d := d) (L := L) (xs := xs) (O := O) (c := c) hN n0 (by omega) (by omega) c48
    have u25 : q_g u 285 25 = N + 1 := by
      show (u 285 25).toInt = _
      rw [e7, setf_e rfl]
      exact q_sg_id (by omega) (by omega)
    have rw' : ∀ z, z < N → Row (dM s) (dM u) z := fun z hz => by
      try dsimp only [Rep_e1, Rep_e2, Wi_e1, Wi_e2, Dis_e1, Dis_e2, Okt_e1, Okt_e2, mrk_e1, mrk_e2]
      refine ⟨?_, ?_, rfl, fun k k0 k1 => ⟨?_, ?_⟩⟩
      · show (u 294 z).toInt = _
        rw [e2, setf_n (by omega)]
        rfl
      · show (u 295 z).toInt = _
        rw [e3, setf_n (by omega)]
        rfl
      · show (u 296 (6 * z + k)).toInt = _
        rw [e4, if_neg (by omega)]
        rfl
      · show (u 297 (6 * z + k)).toInt = _
        rw [e5, if_neg (by omega)]
        rfl
    have KN : (dM u).K N = (dM s).K y := by
      show (u 294 N).toInt = _
      rw [e2, setf_e rfl]
      rfl
    have RN : (dM u).R N = (dM s).R y := by
      show (u 295 N).toInt = _
      rw [e3, setf_e rfl]
      rfl
    have AN : ∀ k, 0 ≤ k → k < 6 → (dM u).A N k = (dM s).A y k := fun k k0 k1 => by
      show (u 296 (6 * N + k)).toInt = _
      rw [e4, if_pos (by omega), show 6 * N + k - 6 * N + 6 * y = 6 * y + k by omega]
      rfl
    have BN : ∀ k, 0 ≤ k → k < 6 → (dM u).B N k = (dM s).B y k := fun k k0 k1 => by
      show (u 297 (6 * N + k)).toInt = _
      rw [e5, if_pos (by omega), show 6 * N + k - 6 * N + 6 * y = 6 * y + k by omega]
      rfl
    have fN : (dM u).fr N = 1 := if_neg (by omega)
    have main : Sub (dM u) (N + 1) (mrk t) N ∧ ∀ z, Wi (dM u) (mrk t) N z → Wi (dM s) t y z ∨ z = N := by
      cases t using Tr_cs with
      | lf p n a b =>
        try dsimp only [Rep_e1, Rep_e2, Wi_e1, Wi_e2, Dis_e1, Dis_e2, Okt_e1, Okt_e2, mrk_e1, mrk_e2] at *
        obtain ⟨h1, h2, h3, h4, h5, h6⟩ := Sub_R1 S
        unfold Sub
        try dsimp only [Rep_e1, Rep_e2, Wi_e1, Wi_e2, Dis_e1, Dis_e2, Okt_e1, Okt_e2, mrk_e1, mrk_e2]
        refine ⟨⟨⟨KN.trans h1, RN.trans h2, h3, h4, Or.inr ⟨fN, rfl⟩, fun k k0 k1 => ?_⟩, trivial, fun z hz => ?_⟩, fun z hz => Or.inr hz⟩
        · rw [AN k k0 (by omega), BN k k0 (by omega)]
          exact h6 k k0 k1
        · have : z = N := hz
          omega
      | br p n a cc =>
        try dsimp only [Rep_e1, Rep_e2, Wi_e1, Wi_e2, Dis_e1, Dis_e2, Okt_e1, Okt_e2, mrk_e1, mrk_e2] at *
        obtain ⟨h1, h2, h3, h4, h5, h6⟩ := Sub_R2 S
        have kid : ∀ k, 0 ≤ k → k < n → Rep (dM u) (cc k) ((dM s).B y k) ∧ (∀ z, Wi (dM u) (cc k) ((dM s).B y k) z ↔ Wi (dM s) (cc k) ((dM s).B y k) z) ∧ Dis (dM u) (cc k) ((dM s).B y k) := fun k k0 k1 => by
          obtain ⟨V1, V2, V3⟩ := Rep_fr (D' := dM u) (h6 k k0 k1).2 (fun z hz => rw' z (S.2.2 z (Or.inr ⟨k, k0, k1, hz⟩)).2)
          exact ⟨V1, V2, V3 (S.2.1 k k0 k1).1⟩
        unfold Sub
        try dsimp only [Rep_e1, Rep_e2, Wi_e1, Wi_e2, Dis_e1, Dis_e2, Okt_e1, Okt_e2, mrk_e1, mrk_e2]
        refine ⟨⟨⟨KN.trans h1, RN.trans h2, h3, h4, Or.inr ⟨fN, rfl⟩, fun k k0 k1 => ?_⟩, fun k k0 k1 => ?_, fun z hz => ?_⟩, fun z hz => ?_⟩
        · rw [AN k k0 (by omega), BN k k0 (by omega)]
          exact ⟨(h6 k k0 k1).1, (kid k k0 k1).1⟩
        · rw [BN k k0 (by omega)]
          try dsimp only [Rep_e1, Rep_e2, Wi_e1, Wi_e2, Dis_e1, Dis_e2, Okt_e1, Okt_e2, mrk_e1, mrk_e2]
          refine ⟨(kid k k0 k1).2.2, fun hw => ?_, fun k' k0' k1' hk z hz hz' => ?_⟩
          · have := (S.2.2 N (Or.inr ⟨k, k0, k1, ((kid k k0 k1).2.1 N).mp hw⟩)).2
            omega
          · rw [BN k' k0' (by omega)] at hz'
            exact (S.2.1 k k0 k1).2.2 k' k0' k1' hk z (((kid k k0 k1).2.1 z).mp hz) (((kid k' k0' k1').2.1 z).mp hz')
        · rcases hz with e | ⟨k, k0, k1, hw⟩
          · omega
          · rw [BN k k0 (by omega)] at hw
            have := S.2.2 z (Or.inr ⟨k, k0, k1, ((kid k k0 k1).2.1 z).mp hw⟩)
            omega
        · rcases hz with e | ⟨k, k0, k1, hw⟩
          · exact Or.inr e
          · rw [BN k k0 (by omega)] at hw
            exact Or.inl (Or.inr ⟨k, k0, k1, ((kid k k0 k1).2.1 z).mp hw⟩)
    try dsimp only [Rep_e1, Rep_e2, Wi_e1, Wi_e2, Dis_e1, Dis_e2, Okt_e1, Okt_e2, mrk_e1, mrk_e2]
    refine ⟨u, N, e1, by rw [u25]; exact main.1, u25, n0, main.2, rw', Or.inr BN, fun z z0 z1 => ?_, Or.inr rfl, fun k z h1 h2 h3 => ?_⟩
    · by_cases ez : z = y
      · have g : q_g u 301 z = 1 := by
          show (u 301 z).toInt = _
          rw [e6, setf_e ez]
          rfl
        exact ⟨Or.inr g, fun _ => Or.inr ⟨by omega, by rw [ez, ep]⟩, fun _ => g⟩
      · have g : q_g u 301 z = q_g s 301 z := by
          show (u 301 z).toInt = _
          rw [e6, setf_n ez]
          rfl
        rw [g]
        exact ⟨(hl z z0 z1).1, fun e => Or.inl ((hl z z0 z1).2.mp e), fun e => e.elim (hl z z0 z1).2.mpr (fun e => absurd (e.2.trans ep) ez)⟩
    · by_cases e : k = 285
      · subst e
        rw [e7, setf_n (by omega)]
      · rw [e8 k e (by omega) (by omega) (by omega) (by omega) h3]
  · have f1 : (dM s).fr y = 1 := if_neg c48
    have ep : tpg t = -1 := by
      rcases pg with ⟨f, e⟩ | ⟨f, e⟩
      · rw [f1] at f
        omega
      · exact e
    rw [if_pos ep] at n1
    rw [if_pos ep]
    have em : mrk t = t := by
      cases t using Tr_cs with
      | lf p n a b =>
        try dsimp only [Rep_e1, Rep_e2, Wi_e1, Wi_e2, Dis_e1, Dis_e2, Okt_e1, Okt_e2, mrk_e1, mrk_e2] at *
        have e : p = -1 := ep
        subst e
        rfl
      | br p n a cc =>
        try dsimp only [Rep_e1, Rep_e2, Wi_e1, Wi_e2, Dis_e1, Dis_e2, Okt_e1, Okt_e2, mrk_e1, mrk_e2] at *
        have e : p = -1 := ep
        subst e
        rfl
    try dsimp only [Rep_e1, Rep_e2, Wi_e1, Wi_e2, Dis_e1, Dis_e2, Okt_e1, Okt_e2, mrk_e1, mrk_e2]
    refine ⟨s, y, mm_renewed2 (by omega) (by omega), by rw [hN, em]; exact S, by rw [hN]; omega, by omega, fun z hz => by rw [em] at hz; exact Or.inl hz, fun z _ => Row_refl, Or.inl rfl, LfM_iff hl (fun z => ⟨Or.inl, fun e => e.elim id (fun e => absurd ep e.1)⟩), Or.inl rfl, fun _ _ _ _ _ => rfl⟩
end MRN
