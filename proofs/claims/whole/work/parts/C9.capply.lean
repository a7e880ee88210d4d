/-! THE CLASS: a change of the draft -/
noncomputable def CSt (s : Nat → Int → Int32) (T : Option Tr) (Lf : Int → Prop) (i : Int) : Prop := 48 ≤ q_g s 242 9 ∧ q_g s 242 12 = 0 ∧ LfC s Lf ∧ PTo T ∧ q_g s 242 9 + pot 0 T ≤ 140 + i ∧ (T = none → q_g s 242 10 = -1) ∧ ∀ t, T = some t → Sub (dC s) (q_g s 242 9) t (q_g s 242 10)
section CAP
variable {d L : Nat} {xs : Nat → Int32} {s u : Nat → Int → Int32} {O : Nat → Int64} {c : Bool × Nat × Nat} {key v i : Int} {T : Option Tr} {Lf Lg : Int → Prop}
theorem LfC_iff (h : LfC s Lf) (e : ∀ z, Lf z ↔ Lg z) : LfC s Lg := ⟨fun z z0 z1 => ⟨(h.1 z z0 z1).1, (h.1 z z0 z1).2.trans (e z)⟩, fun z z0 z1 hz => (e z).mp (h.2 z z0 z1 hz)⟩
theorem pot_0 (q : Int) (hq : 0 ≤ q) (T : Option Tr) : 0 ≤ pot q T := by
  cases T with
  | none => exact Int.le_refl _
  | some t => exact tw_0 (wt_0 hq) t
theorem dR_0 (q : Int) (hq : 0 ≤ q) : 0 ≤ dR q key v T := by
  cases T with
  | none => exact Int.le_refl _
  | some t =>
    rw [dR_s]
    have := rnw_0 (key := key) hq t
    split <;> omega
theorem dN_0 : 0 ≤ dN key v T := by
  cases T with
  | none =>
    rw [dN_n]
    split <;> omega
  | some t =>
    rw [dN_s]
    have := mdz_0 (key := key) (g := gPut key v) t
    split
    · omega
    · split
      · omega
      · split <;> omega
theorem CSt_keep (C : CSt s T Lf i) (e : ∀ k z, k ≠ 249 → k ≠ 250 → ¬ (k = 242 ∧ z = 8) → u k z = s k z) (hg : ∀ z, Lf z ↔ Lg z) (hd : dT key v T = T) : CSt u (dT key v T) Lg (i + 1) := by
  obtain ⟨c1, c2, c3, c4, c5, c6, c7⟩ := C
  have g : ∀ k z, k ≠ 249 → k ≠ 250 → ¬ (k = 242 ∧ z = 8) → q_g u k z = q_g s k z := fun k z h1 h2 h3 => by
    show (u k z).toInt = _
    rw [e k z h1 h2 h3]
    rfl
  have eD : dC u = dC s := dC_c (fun k a1 a2 => funext fun z => e k z (by omega) (by omega) (by omega))
  rw [hd]
  refine ⟨by rw [g 242 9 (by omega) (by omega) (by omega)]; exact c1, by rw [g 242 12 (by omega) (by omega) (by omega)]; exact c2, LfC_iff (LfC_sm c3 (fun z _ => ⟨e 247 z (by omega) (by omega) (by omega), e 248 z (by omega) (by omega) (by omega)⟩)) hg, c4, by rw [g 242 9 (by omega) (by omega) (by omega)]; omega, fun h => by rw [g 242 10 (by omega) (by omega) (by omega)]; exact c6 h, fun t ht => by rw [eD, g 242 9 (by omega) (by omega) (by omega), g 242 10 (by omega) (by omega) (by omega)]; exact c7 t ht⟩
theorem cc_apply (C : CSt s T Lf i) (i0 : 0 ≤ i) (i1 : i ≤ 11) (k0 : 0 ≤ key) (k1 : key < 100) (v0 : 0 ≤ v) (v1 : v ≤ 100) : ∃ u, EV (d + 5) 44 0 [.ref 242, .int (q_I (key)), .int (q_I (v))] [] (q_h L xs s O c) = some (.inl none, q_h L xs (u) O c) ∧ CSt u (dT key v T) (fun z => Lf z ∨ dL key v T z) (i + 1) ∧ (dA key v T → q_g u 242 11 = 1) ∧ (¬ dA key v T → q_g u 242 11 = q_g s 242 11) ∧ ∀ k z, ¬ (242 ≤ k ∧ k ≤ 250) → u k z = s k z := by
  have C0 := C
  obtain ⟨c1, c2, c3, c4, c5, c6, c7⟩ := C
  have p0 := pot_0 0 (by omega) T
  have dp := dT_pot (key := key) (v := v) (q := 0) (Or.inl rfl) c4
  have r0 := dR_0 (key := key) (v := v) (T := T) 0 (by omega)
  have n0 := dN_0 (key := key) (v := v) (T := T)
  have p1 := pot_0 0 (by omega) (dT key v T)
  have cn : ∀ t, T = some t → cnt t ≤ 200 := fun t ht => by
    have := cnt_le (c7 t ht).2.1 (c7 t ht).2.2
    omega
  have dk := dT_ok k0 k1 v0 v1 c4 cn
  by_cases cv : v = 100
  · have ap : ∀ u, EV (d + 4) 46 0 [.ref 242, .int (q_I (key)), .null, .null, .null, .null] [] (q_h L xs s O c) = some (.inl none, q_h L xs (u) O c) → EV (d + 5) 44 0 [.ref 242, .int (q_I (key)), .int (q_I (v))] [] (q_h L xs s O c) = some (.inl none, q_h L xs (u) O c) := fun u hu => by
      subst cv
      simp (disch := first | omega | exact q_b_01 _) only [↓reduceIte, q_bk0, q_bk1, q_bk2, q_sg_b, q_b_0, q_b_n0, q_b_1, q_b_n1, q_b_T, q_b_F, q_sg_g, q_sg_sg, q_sg_xs, q_sg_id, q_gu_ne, q_gu_eq, q_g_fne, q_g_cpe, q_w_f, q_v_f, q_u_f, q_fn_f, q_cp_f, q_sg_pg, q_sg_hc, q_lt_t, q_lt_f, q_le_t, q_le_f, q_eq_t, q_eq_f, ne_eq, eq_self, Bool.false_eq_true, Bool.true_eq_false, not_true_eq_false, not_false_eq_true, true_and, and_true, false_and, and_false, true_or, or_true, false_or, or_false, if_true, if_false, Int.reduceAdd, Int.reduceMul, Int.reduceSub, Int.reduceNeg, hu, R_44_0, R_44_6, R_44_11, R_44_14, R_44_20, C_44_8, C_44_17]
    cases T with
    | none =>
      have e := cc_remNone (d := d) (L := L) (xs := xs) (O := O) (c := c) (key := key) (c6 rfl)
      exact ⟨s, ap s e, CSt_keep C0 (fun _ _ _ _ _ => rfl) (fun z => ⟨Or.inl, fun e => e.elim id False.elim⟩) (by rw [dT_n, if_pos cv]), fun z => absurd cv z, fun _ => rfl, fun _ _ _ => rfl⟩
    | some t =>
      obtain ⟨h, h12, o, hz⟩ := c4
      by_cases hn : atL key (hasL key) t
      · obtain ⟨u, u1, u2, u3, u4, u5, u6, u7, u8⟩ := cc_remHas (d := d) (L := L) (xs := xs) (O := O) (c := c) k0 k1 o h12 (c7 t rfl) c1 (by omega) c3 hn
        have hA : dA key v (some t) := Or.inl ⟨cv, hn⟩
        have eN : dN key v (some t) = 0 := by rw [dN_s, if_pos cv]
        have eT : dT key v (some t) = if tsz (chg key (gDel key) t) = 0 then none else some (lowT (chg key (gDel key) t)) := by rw [dT_s, if_pos cv, if_pos hn]
        try dsimp only [atL_e1, atL_e2]
        refine ⟨u, ap u u1, ⟨by rw [u5]; exact c1, by rw [u7, c2], LfC_iff u4 (fun z => ?_), dk, by rw [u5]; omega, fun e => ?_, fun t' e => ?_⟩, fun _ => u6, fun z => absurd hA z, u8⟩
        · constructor
          · rintro ((e | e) | e)
            · exact Or.inl e
            · exact Or.inr ⟨hA, Or.inl e⟩
            · exact Or.inr ⟨hA, Or.inr ⟨cv, e⟩⟩
          · rintro (e | ⟨_, e | ⟨_, e⟩⟩)
            · exact Or.inl (Or.inl e)
            · exact Or.inl (Or.inr e)
            · exact Or.inr e
        · rw [eT] at e
          by_cases c0 : tsz (chg key (gDel key) t) = 0
          · exact u2 c0
          · rw [if_neg c0] at e
            exact absurd e (by simp)
        · rw [eT] at e
          by_cases c0 : tsz (chg key (gDel key) t) = 0
          · rw [if_pos c0] at e
            exact absurd e (by simp)
          · rw [if_neg c0] at e
            have e := Option.some.inj e
            rw [← e]
            exact u3 c0
      · obtain ⟨u, u1, u2⟩ := cc_remNo (d := d) (L := L) (xs := xs) (O := O) (c := c) k0 k1 o h12 (c7 t rfl) (by omega) c3 hn
        have hA : ¬ dA key v (some t) := fun z => z.elim (fun z => hn z.2) (fun z => z.1 cv)
        try dsimp only [atL_e1, atL_e2]
        refine ⟨u, ap u u1, CSt_keep C0 u2 (fun z => ⟨Or.inl, fun e => e.elim id (fun e => absurd e.1 hA)⟩) (by rw [dT_s, if_pos cv, if_neg hn]), fun z => absurd z hA, fun _ => ?_, fun k z hk => u2 k z (by omega) (by omega) (by omega)⟩
        show (u 242 11).toInt = _
        rw [u2 242 11 (by omega) (by omega) (by omega)]
        rfl
  · have ap : ∀ u, EV (d + 4) 45 0 [.ref 242, .int (q_I (key)), .int (q_I (v)), .null, .null, .null, .null] [] (q_h L xs s O c) = some (.inl none, q_h L xs (u) O c) → EV (d + 5) 44 0 [.ref 242, .int (q_I (key)), .int (q_I (v))] [] (q_h L xs s O c) = some (.inl none, q_h L xs (u) O c) := fun u hu => by
      simp (disch := first | omega | exact q_b_01 _) only [↓reduceIte, q_bk0, q_bk1, q_bk2, q_sg_b, q_b_0, q_b_n0, q_b_1, q_b_n1, q_b_T, q_b_F, q_sg_g, q_sg_sg, q_sg_xs, q_sg_id, q_gu_ne, q_gu_eq, q_g_fne, q_g_cpe, q_w_f, q_v_f, q_u_f, q_fn_f, q_cp_f, q_sg_pg, q_sg_hc, q_lt_t, q_lt_f, q_le_t, q_le_f, q_eq_t, q_eq_f, ne_eq, eq_self, Bool.false_eq_true, Bool.true_eq_false, not_true_eq_false, not_false_eq_true, true_and, and_true, false_and, and_false, true_or, or_true, false_or, or_false, if_true, if_false, Int.reduceAdd, Int.reduceMul, Int.reduceSub, Int.reduceNeg, hu, cv, R_44_0, R_44_6, R_44_11, R_44_14, R_44_20, C_44_8, C_44_17]
    cases T with
    | none =>
      obtain ⟨u, u1, u2, u3, u4, u5, u6, u7⟩ := cc_putNone (d := d) (L := L) (xs := xs) (O := O) (c := c) (v := v) k0 k1 v0 (by omega) (c6 rfl) c1 (by omega) c3
      have eN : dN key v none = 1 := by rw [dN_n, if_neg cv]
      try dsimp only [atL_e1, atL_e2]
      refine ⟨u, ap u u1, ⟨by omega, by rw [u6, c2], LfC_iff u3 (fun z => ⟨Or.inl, fun e => e.elim id False.elim⟩), dk, by omega, fun e => ?_, fun t' e => ?_⟩, fun _ => u5, fun z => absurd cv z, u7⟩
      · rw [dT_n, if_neg cv] at e
        exact absurd e (by simp)
      · rw [dT_n, if_neg cv] at e
        have e := Option.some.inj e
        rw [← e]
        exact u2
    | some t =>
      obtain ⟨h, h12, o, hz⟩ := c4
      by_cases hn : atL key (hasL key) t
      · by_cases hv : valK key t = v
        · obtain ⟨u, u1, u2⟩ := cc_putSame (d := d) (L := L) (xs := xs) (O := O) (c := c) k0 k1 v0 (by omega) o h12 (c7 t rfl) (by omega) c3 hn hv
          have hA : ¬ dA key v (some t) := fun z => z.elim (fun z => cv z.1) (fun z => z.2 ⟨hn, hv⟩)
          try dsimp only [atL_e1, atL_e2]
          refine ⟨u, ap u u1, CSt_keep C0 u2 (fun z => ⟨Or.inl, fun e => e.elim id (fun e => absurd e.1 hA)⟩) (by rw [dT_s, if_neg cv, if_pos hn, if_pos hv]), fun z => absurd z hA, fun _ => ?_, fun k z hk => u2 k z (by omega) (by omega) (by omega)⟩
          show (u 242 11).toInt = _
          rw [u2 242 11 (by omega) (by omega) (by omega)]
          rfl
        · obtain ⟨u, u1, u2, u3, u4, u5, u6, u7⟩ := cc_putSet (d := d) (L := L) (xs := xs) (O := O) (c := c) k0 k1 v0 (by omega) o h12 (c7 t rfl) (by omega) c3 hn hv
          have hA : dA key v (some t) := Or.inr ⟨cv, fun z => hv z.2⟩
          have eT : dT key v (some t) = some (chg key (gSet key v) t) := by rw [dT_s, if_neg cv, if_pos hn, if_neg hv]
          try dsimp only [atL_e1, atL_e2]
          refine ⟨u, ap u u1, ⟨by omega, by rw [u6, c2], LfC_iff u3 (fun z => ⟨fun e => e.elim Or.inl (fun e => Or.inr ⟨hA, Or.inl e⟩), fun e => e.elim Or.inl (fun e => e.2.elim Or.inr (fun e => absurd e.1 cv))⟩), dk, by omega, fun e => ?_, fun t' e => ?_⟩, fun _ => u5, fun z => absurd hA z, u7⟩
          · rw [eT] at e
            exact absurd e (by simp)
          · rw [eT] at e
            have e := Option.some.inj e
            rw [← e]
            exact u2
      · have eN : dN key v (some t) = mdz key (gPut key v) t + (if tsz (chg key (gPut key v) t) = 5 then 2 else 0) := by rw [dN_s, if_neg cv, if_neg hn]
        have m5 : 0 ≤ (if tsz (chg key (gPut key v) t) = 5 then (2 : Int) else 0) := by split <;> omega
        obtain ⟨u, u1, u2, u3, u4, u5, u6, u7⟩ := cc_putNew (d := d) (L := L) (xs := xs) (O := O) (c := c) (v := v) k0 k1 v0 (by omega) o h12 (c7 t rfl) c1 (by omega) c3 hn
        have hA : dA key v (some t) := Or.inr ⟨cv, fun z => hn z.1⟩
        have eT : dT key v (some t) = some (topT (chg key (gPut key v) t)) := by rw [dT_s, if_neg cv, if_neg hn]
        try dsimp only [atL_e1, atL_e2]
        refine ⟨u, ap u u1, ⟨by omega, by rw [u6, c2], LfC_iff u3 (fun z => ⟨fun e => e.elim Or.inl (fun e => Or.inr ⟨hA, Or.inl e⟩), fun e => e.elim Or.inl (fun e => e.2.elim Or.inr (fun e => absurd e.1 cv))⟩), dk, by omega, fun e => ?_, fun t' e => ?_⟩, fun _ => u5, fun z => absurd hA z, u7⟩
        · rw [eT] at e
          exact absurd e (by simp)
        · rw [eT] at e
          have e := Option.some.inj e
          rw [← e]
          exact u2
end CAP
