/-! THE REFERENCE: an atom of a law -/
section MLA
variable {L : Nat} {xs : Nat → Int32} {O : Nat → Int64} {c : Bool × Nat × Nat} {T : Int → Int} {E : Int} {F : Int → Int}
/-- neither not nor a bracket -/
theorem mm_atP {r A d i : Nat} {s : Nat → Int → Int32} (H : TX T E) (b0 : 1 ≤ bs T E i) (hf : Fc F s) (hs : MS T E (bs T E i) s) (hA : 3 ≤ A) (c1 : ¬ tk T E i 1 8) (c2 : ¬ tk T E i 3 40) : MSp T E F r A i B01 s (pPlain T E i) (fun w t => EV (d + 13) 247 0 [.ref 285, .null, .null, .null] [] (q_h L xs s O c) = some (.inl (some (.int (q_I (w)))), q_h L xs (t) O c)) := by
  have s1 := MS_cur H hs
  have hf0 := hs.2.1
  have F0 : FM s (q_u s 285 11 (bs T E i)) := FM_u FM_refl (by omega)
  have hh := ms_here (d := d + 10) (L := L) (xs := xs) (O := O) (c := c) H hs
  have hn := hs_not (d := d + 3) (L := L) (xs := xs) (O := O) (c := c) H s1
  have hsg := ms_sign (d := d + 10) (L := L) (xs := xs) (O := O) (c := c) (x := 40) H s1 (by omega) (by omega) (by omega) (by omega)
  rw [q_uu_eq] at hn hsg
  rw [if_neg c1, q_bf c1] at hn
  rw [q_bf c2] at hsg
  have k := mm_plain (d := d) (L := L) (xs := xs) (O := O) (c := c) (i := i) H (Fc_m hf F0) s1 (by omega)
  cases hp : pPlain T E i with
  | inl e =>
    rw [hp] at k
    obtain ⟨t, w, a1, aw, a2, a3⟩ := k
    refine ⟨t, w, ?_, aw, ⟨a2.1, a2.2.1, a2.2.2.1, a2.2.2.2.1, by have := a2.2.2.2.2; omega⟩, FM_trans F0 a3⟩
    simp (disch := first | omega | exact q_b_01 _) only [↓reduceIte, q_bk0, q_bk1, q_bk2, q_sg_b, q_b_0, q_b_n0, q_b_1, q_b_n1, q_b_T, q_b_F, q_sg_g, q_sg_sg, q_sg_xs, q_sg_id, q_gu_ne, q_gu_eq, q_g_fne, q_g_cpe, q_w_f, q_v_f, q_u_f, q_fn_f, q_cp_f, q_sg_pg, q_sg_hc, q_lt_t, q_lt_f, q_le_t, q_le_f, q_eq_t, q_eq_f, ne_eq, eq_self, Bool.false_eq_true, Bool.true_eq_false, not_true_eq_false, not_false_eq_true, true_and, and_true, false_and, and_false, true_or, or_true, false_or, or_false, if_true, if_false, Int.reduceAdd, Int.reduceMul, Int.reduceSub, Int.reduceNeg, hf0, hh, hn, hsg, a1, R_247_0, R_247_8, R_247_10, R_247_14, R_247_21, R_247_26, R_247_32, R_247_35, R_247_39, R_247_40, R_247_49, R_247_54, R_247_56, R_247_66, R_247_72, R_247_76, R_247_79, R_247_83, R_247_84, R_247_88, R_247_98, R_247_102, R_247_111, R_247_117, R_247_120, R_247_128, R_247_138, R_247_148, C_247_11, C_247_18, C_247_29, C_247_36, C_247_51, C_247_73, C_247_99, C_247_114, C_247_125]
  | inr p =>
    rw [hp] at k
    obtain ⟨i', q⟩ := p
    obtain ⟨t, w, a1, aw, a2, a3, a4, a5, a6⟩ := k
    refine ⟨t, w, ?_, aw, a2, fun hR => ?_, a4, a5, FM_trans F0 a6⟩
    · simp (disch := first | omega | exact q_b_01 _) only [↓reduceIte, q_bk0, q_bk1, q_bk2, q_sg_b, q_b_0, q_b_n0, q_b_1, q_b_n1, q_b_T, q_b_F, q_sg_g, q_sg_sg, q_sg_xs, q_sg_id, q_gu_ne, q_gu_eq, q_g_fne, q_g_cpe, q_w_f, q_v_f, q_u_f, q_fn_f, q_cp_f, q_sg_pg, q_sg_hc, q_lt_t, q_lt_f, q_le_t, q_le_f, q_eq_t, q_eq_f, ne_eq, eq_self, Bool.false_eq_true, Bool.true_eq_false, not_true_eq_false, not_false_eq_true, true_and, and_true, false_and, and_false, true_or, or_true, false_or, or_false, if_true, if_false, Int.reduceAdd, Int.reduceMul, Int.reduceSub, Int.reduceNeg, hf0, hh, hn, hsg, a1, R_247_0, R_247_8, R_247_10, R_247_14, R_247_21, R_247_26, R_247_32, R_247_35, R_247_39, R_247_40, R_247_49, R_247_54, R_247_56, R_247_66, R_247_72, R_247_76, R_247_79, R_247_83, R_247_84, R_247_88, R_247_98, R_247_102, R_247_111, R_247_117, R_247_120, R_247_128, R_247_138, R_247_148, C_247_11, C_247_18, C_247_29, C_247_36, C_247_51, C_247_73, C_247_99, C_247_114, C_247_125]
    · obtain ⟨m1, x1, y1⟩ := a3 hR
      exact ⟨m1, by omega, y1⟩
/-- one deeper, and back -/
theorem FM_dp {s t : Nat → Int → Int32} {g : Int} (hg : q_g s 285 13 = g) (g0 : 0 ≤ g) (g1 : g ≤ 6) (h : FM (q_u s 285 13 (g + 1)) t) : FM s (q_u t 285 13 g) := fun k z a => by
  by_cases e : k = 285 ∧ z = 13
  · obtain ⟨rfl, rfl⟩ := e
    have e1 : q_u t 285 13 g 285 13 = q_u s 285 13 g 285 13 := by simp [q_u]
    rw [e1, q_u_same hg]
  · rw [q_u_n e, h k z a, q_u_n e]
theorem mm_atom (H : TX T E) : ∀ (r D : Nat), r ≤ 6 → 3 * r + 13 ≤ D → MAt T E F L xs O c (pAtom T E r) (3 + 2 * r) r D
  | 0, D, hr, hD, i, s, b0, hf, hs, hd => by
    obtain ⟨d, rfl⟩ : ∃ d, D = d + 13 := ⟨D - 13, by omega⟩
    have s1 := MS_cur H hs
    have hb := MS_b H hs
    have le := MS_le H hs
    have hE := H.2.1
    have hf0 := hs.2.1
    unfold pAtom
    by_cases c1 : tk T E i 1 8
    · rw [if_pos c1]
      have hh := ms_here (d := d + 10) (L := L) (xs := xs) (O := O) (c := c) H hs
      have hn := hs_not (d := d + 3) (L := L) (xs := xs) (O := O) (c := c) H s1
      rw [q_uu_eq] at hn
      rw [if_pos c1, q_bt c1] at hn
      have tg := tend_gt (T := T) (E := E) (b := bs T E i) (thg_lt (T := T) (E := E) (b := bs T E i) (by have := c1.1; omega))
      have gd : q_g (q_u s 285 11 (tend T E (bs T E i))) 285 13 = 6 := by rw [q_gu_ne (by omega), hd]; rfl
      have mw := mm_wrong (d := d + 12) (L := L) (xs := xs) (s := q_u s 285 11 (tend T E (bs T E i))) (O := O) (c := c) (w := bs T E i)
      rw [if_pos (by rw [q_gu_ne (by omega), hf0])] at mw
      refine ⟨_, 0, ?_, Or.inl rfl, MG_of (a := tend T E (bs T E i)) H hs (by omega) (by omega), FM_u (FM_u FM_refl (by omega)) (by omega)⟩
      simp (disch := first | omega | exact q_b_01 _) only [↓reduceIte, q_bk0, q_bk1, q_bk2, q_sg_b, q_b_0, q_b_n0, q_b_1, q_b_n1, q_b_T, q_b_F, q_sg_g, q_sg_sg, q_sg_xs, q_sg_id, q_gu_ne, q_gu_eq, q_g_fne, q_g_cpe, q_w_f, q_v_f, q_u_f, q_fn_f, q_cp_f, q_sg_pg, q_sg_hc, q_lt_t, q_lt_f, q_le_t, q_le_f, q_eq_t, q_eq_f, ne_eq, eq_self, Bool.false_eq_true, Bool.true_eq_false, not_true_eq_false, not_false_eq_true, true_and, and_true, false_and, and_false, true_or, or_true, false_or, or_false, if_true, if_false, Int.reduceAdd, Int.reduceMul, Int.reduceSub, Int.reduceNeg, hf0, hh, hn, gd, mw, R_247_0, R_247_8, R_247_10, R_247_14, R_247_21, R_247_26, R_247_32, R_247_35, R_247_39, R_247_40, R_247_49, R_247_54, R_247_56, R_247_66, R_247_72, R_247_76, R_247_79, R_247_83, R_247_84, R_247_88, R_247_98, R_247_102, R_247_111, R_247_117, R_247_120, R_247_128, R_247_138, R_247_148, C_247_11, C_247_18, C_247_29, C_247_36, C_247_51, C_247_73, C_247_99, C_247_114, C_247_125]
    · rw [if_neg c1]
      by_cases c2 : tk T E i 3 40
      · rw [if_pos c2]
        have hh := ms_here (d := d + 10) (L := L) (xs := xs) (O := O) (c := c) H hs
        have hn := hs_not (d := d + 3) (L := L) (xs := xs) (O := O) (c := c) H s1
        have hsg := ms_sign (d := d + 10) (L := L) (xs := xs) (O := O) (c := c) (x := 40) H s1 (by omega) (by omega) (by omega) (by omega)
        rw [q_uu_eq] at hn hsg
        rw [if_neg c1, q_bf c1] at hn
        rw [q_bt c2] at hsg
        have gd : q_g (q_u s 285 11 (bs T E i)) 285 13 = 6 := by rw [q_gu_ne (by omega), hd]; rfl
        have mw := mm_wrong (d := d + 12) (L := L) (xs := xs) (s := q_u s 285 11 (bs T E i)) (O := O) (c := c) (w := bs T E i)
        rw [if_pos s1.2.1] at mw
        refine ⟨_, 0, ?_, Or.inl rfl, MG_of (a := bs T E i) H hs (by omega) (by omega), FM_u (FM_u FM_refl (by omega)) (by omega)⟩
        simp (disch := first | omega | exact q_b_01 _) only [↓reduceIte, q_bk0, q_bk1, q_bk2, q_sg_b, q_b_0, q_b_n0, q_b_1, q_b_n1, q_b_T, q_b_F, q_sg_g, q_sg_sg, q_sg_xs, q_sg_id, q_gu_ne, q_gu_eq, q_g_fne, q_g_cpe, q_w_f, q_v_f, q_u_f, q_fn_f, q_cp_f, q_sg_pg, q_sg_hc, q_lt_t, q_lt_f, q_le_t, q_le_f, q_eq_t, q_eq_f, ne_eq, eq_self, Bool.false_eq_true, Bool.true_eq_false, not_true_eq_false, not_false_eq_true, true_and, and_true, false_and, and_false, true_or, or_true, false_or, or_false, if_true, if_false, Int.reduceAdd, Int.reduceMul, Int.reduceSub, Int.reduceNeg, hf0, hh, hn, hsg, gd, mw, R_247_0, R_247_8, R_247_10, R_247_14, R_247_21, R_247_26, R_247_32, R_247_35, R_247_39, R_247_40, R_247_49, R_247_54, R_247_56, R_247_66, R_247_72, R_247_76, R_247_79, R_247_83, R_247_84, R_247_88, R_247_98, R_247_102, R_247_111, R_247_117, R_247_120, R_247_128, R_247_138, R_247_148, C_247_11, C_247_18, C_247_29, C_247_36, C_247_51, C_247_73, C_247_99, C_247_114, C_247_125]
      · rw [if_neg c2]
        exact mm_atP H b0 hf hs (by omega) c1 c2
  | r + 1, D, hr, hD, i, s, b0, hf, hs, hd => by
    obtain ⟨d, rfl⟩ : ∃ d, D = d + 13 := ⟨D - 13, by omega⟩
    have s1 := MS_cur H hs
    have hb := MS_b H hs
    have le := MS_le H hs
    have hE := H.2.1
    have hf0 := hs.2.1
    have en : bs T E (i + 1) = nxt T E (bs T E i) := rfl
    have hd' : q_g s 285 13 = 5 - (r : Int) := by omega
    unfold pAtom
    by_cases c1 : tk T E i 1 8
    · rw [if_pos c1]
      have hh := ms_here (d := d + 10) (L := L) (xs := xs) (O := O) (c := c) H hs
      have hn := hs_not (d := d + 3) (L := L) (xs := xs) (O := O) (c := c) H s1
      rw [q_uu_eq] at hn
      rw [if_pos c1, q_bt c1] at hn
      have bE := thg_lt (T := T) (E := E) (b := bs T E i) (by have := c1.1; omega)
      have ng := nxt_gt (T := T) bE
      have m := MS_nxt H hs bE
      rw [← en] at m
      have F1 : FM s (q_u s 285 11 (tend T E (bs T E i))) := FM_u FM_refl (by omega)
      generalize hu : q_u s 285 11 (tend T E (bs T E i)) = u at *
      have gd : q_g u 285 13 = 5 - (r : Int) := by rw [FM_g F1 (by omega), hd']
      have m2 : MS T E (bs T E (i + 1)) (q_u u 285 13 (5 - (r : Int) + 1)) := MS_fr m (fun z z0 z1 => by rw [q_u_n (by omega)]) (fun z => by rw [q_u_n (by omega)]) (fun z _ => by rw [q_u_n (by omega)])
      have k := mm_atom H r (d + 12) (by omega) (by omega) (i + 1) _ (by omega) (fun k k0 k1 => by rw [q_gu_ne (by omega)]; exact Fc_m hf F1 k k0 k1) m2 (by rw [q_gu_eq rfl, q_sg_id (by omega) (by omega)]; omega)
      have nv : ∀ w, B01 w → B01 (1 - w) := fun w x => by
        rcases x with e | e <;> subst e <;> simp [B01]
      cases hp : pAtom T E r (i + 1) with
      | inl e =>
        rw [hp] at k
        obtain ⟨t, w, a1, aw, a2, a3⟩ := k
        have a1' : EV (d + 12) 247 0 [.ref 285, .null, .null, .null] [] (q_h L xs (q_u u 285 13 (5 - (r : Int) + 1)) O c) = some (.inl (some (.int (q_I (w)))), q_h L xs (t) O c) := a1
        have gt : q_g t 285 13 = 5 - (r : Int) + 1 := by rw [FM_g a3 (by omega), q_gu_eq rfl, q_sg_id (by omega) (by omega)]
        refine ⟨q_u t 285 13 (5 - (r : Int)), 1 - w, ?_, nv w aw, ⟨TxM_u a2.1 (by omega), by rw [q_gu_ne (by omega)]; exact a2.2.1, a2.2.2.1, by rw [q_gu_ne (by omega)]; exact a2.2.2.2.1, by rw [q_gu_ne (by omega)]; have := a2.2.2.2.2; omega⟩, FM_trans F1 (FM_dp gd (by omega) (by omega) a3)⟩
        rcases aw with e | e <;> subst e <;> simp (disch := first | omega | exact q_b_01 _) only [↓reduceIte, q_bk0, q_bk1, q_bk2, q_sg_b, q_b_0, q_b_n0, q_b_1, q_b_n1, q_b_T, q_b_F, q_sg_g, q_sg_sg, q_sg_xs, q_sg_id, q_gu_ne, q_gu_eq, q_g_fne, q_g_cpe, q_w_f, q_v_f, q_u_f, q_fn_f, q_cp_f, q_sg_pg, q_sg_hc, q_lt_t, q_lt_f, q_le_t, q_le_f, q_eq_t, q_eq_f, ne_eq, eq_self, Bool.false_eq_true, Bool.true_eq_false, not_true_eq_false, not_false_eq_true, true_and, and_true, false_and, and_false, true_or, or_true, false_or, or_false, if_true, if_false, Int.reduceAdd, Int.reduceMul, Int.reduceSub, Int.reduceNeg, hf0, hh, hn, gd, a1', gt, Int.add_sub_cancel, R_247_0, R_247_8, R_247_10, R_247_14, R_247_21, R_247_26, R_247_32, R_247_35, R_247_39, R_247_40, R_247_49, R_247_54, R_247_56, R_247_66, R_247_72, R_247_76, R_247_79, R_247_83, R_247_84, R_247_88, R_247_98, R_247_102, R_247_111, R_247_117, R_247_120, R_247_128, R_247_138, R_247_148, C_247_11, C_247_18, C_247_29, C_247_36, C_247_51, C_247_73, C_247_99, C_247_114, C_247_125] <;> rfl
      | inr p =>
        rw [hp] at k
        obtain ⟨i', q⟩ := p
        obtain ⟨t, w, a1, aw, a2, a3, a4, a5, a6⟩ := k
        have a1' : EV (d + 12) 247 0 [.ref 285, .null, .null, .null] [] (q_h L xs (q_u u 285 13 (5 - (r : Int) + 1)) O c) = some (.inl (some (.int (q_I (w)))), q_h L xs (t) O c) := a1
        have a5' : (q.length : Int) + bs T E (i + 1) ≤ bs T E i' := a5
        have gt : q_g t 285 13 = 5 - (r : Int) + 1 := by rw [FM_g a6 (by omega), q_gu_eq rfl, q_sg_id (by omega) (by omega)]
        refine ⟨q_u t 285 13 (5 - (r : Int)), 1 - w, ?_, nv w aw, MS_fr a2 (fun z z0 z1 => by rw [q_u_n (by omega)]) (fun z => by rw [q_u_n (by omega)]) (fun z _ => by rw [q_u_n (by omega)]), fun hR => ?_, ?_, ?_, FM_trans F1 (FM_dp gd (by omega) (by omega) a6)⟩
        · rcases aw with e | e <;> subst e <;> simp (disch := first | omega | exact q_b_01 _) only [↓reduceIte, q_bk0, q_bk1, q_bk2, q_sg_b, q_b_0, q_b_n0, q_b_1, q_b_n1, q_b_T, q_b_F, q_sg_g, q_sg_sg, q_sg_xs, q_sg_id, q_gu_ne, q_gu_eq, q_g_fne, q_g_cpe, q_w_f, q_v_f, q_u_f, q_fn_f, q_cp_f, q_sg_pg, q_sg_hc, q_lt_t, q_lt_f, q_le_t, q_le_f, q_eq_t, q_eq_f, ne_eq, eq_self, Bool.false_eq_true, Bool.true_eq_false, not_true_eq_false, not_false_eq_true, true_and, and_true, false_and, and_false, true_or, or_true, false_or, or_false, if_true, if_false, Int.reduceAdd, Int.reduceMul, Int.reduceSub, Int.reduceNeg, hf0, hh, hn, gd, a1', gt, Int.add_sub_cancel, R_247_0, R_247_8, R_247_10, R_247_14, R_247_21, R_247_26, R_247_32, R_247_35, R_247_39, R_247_40, R_247_49, R_247_54, R_247_56, R_247_66, R_247_72, R_247_76, R_247_79, R_247_83, R_247_84, R_247_88, R_247_98, R_247_102, R_247_111, R_247_117, R_247_120, R_247_128, R_247_138, R_247_148, C_247_11, C_247_18, C_247_29, C_247_36, C_247_51, C_247_73, C_247_99, C_247_114, C_247_125] <;> rfl
        · obtain ⟨m1, x1, y1⟩ := a3 hR
          exact ⟨m1, by omega, Gd.nt y1 aw⟩
        · show 1 ≤ (q ++ [3000]).length
          simp
        · show ((q ++ [3000]).length : Int) + _ ≤ bs T E i'
          simp only [List.length_append, List.length_cons, List.length_nil]
          omega
    · rw [if_neg c1]
      by_cases c2 : tk T E i 3 40
      · rw [if_pos c2]
        have hh := ms_here (d := d + 10) (L := L) (xs := xs) (O := O) (c := c) H hs
        have hn := hs_not (d := d + 3) (L := L) (xs := xs) (O := O) (c := c) H s1
        have hsg := ms_sign (d := d + 10) (L := L) (xs := xs) (O := O) (c := c) (x := 40) H s1 (by omega) (by omega) (by omega) (by omega)
        rw [q_uu_eq] at hn hsg
        rw [if_neg c1, q_bf c1] at hn
        rw [q_bt c2] at hsg
        have st := sg_tend c2.1
        have ng := nxt_gt (T := T) st.2
        have m := MS_nxt H hs st.2
        rw [← en, st.1] at m
        have F1 : FM s (q_u s 285 11 (bs T E i + 1)) := FM_u FM_refl (by omega)
        have gd0 : q_g (q_u s 285 11 (bs T E i)) 285 13 = 5 - (r : Int) := by rw [q_gu_ne (by omega), hd']
        have g11 : q_g (q_u (q_u s 285 11 (bs T E i)) 285 13 (5 - (r : Int) + 1)) 285 11 = bs T E i := by rw [q_gu_ne (by omega), q_gu_eq rfl, q_sg_id (by omega) (by omega)]
        have eu : q_u (q_u (q_u s 285 11 (bs T E i)) 285 13 (5 - (r : Int) + 1)) 285 11 (bs T E i + 1) = q_u (q_u s 285 11 (bs T E i + 1)) 285 13 (5 - (r : Int) + 1) := by rw [q_uu_ne (by omega), q_uu_eq]
        generalize hu : q_u s 285 11 (bs T E i + 1) = u at *
        have gd : q_g u 285 13 = 5 - (r : Int) := by rw [FM_g F1 (by omega), hd']
        have m2 : MS T E (bs T E (i + 1)) (q_u u 285 13 (5 - (r : Int) + 1)) := MS_fr m (fun z z0 z1 => by rw [q_u_n (by omega)]) (fun z => by rw [q_u_n (by omega)]) (fun z _ => by rw [q_u_n (by omega)])
        have k := mm_some (D := d + 1) (i := i + 1) H (mm_atom H r (d + 10) (by omega) (by omega)) (by omega) (fun k k0 k1 => by rw [q_gu_ne (by omega)]; exact Fc_m hf F1 k k0 k1) (by rw [q_gu_eq rfl, q_sg_id (by omega) (by omega)]; omega) m2
        cases hp : pC T E (pAtom T E r) (i + 1) with
        | inl e =>
          rw [hp] at k
          obtain ⟨t, w, a1, aw, a2, a3⟩ := k
          have a1' : EV (d + 12) 249 0 [.ref 285, .null, .null] [] (q_h L xs (q_u u 285 13 (5 - (r : Int) + 1)) O c) = some (.inl (some (.int (q_I (w)))), q_h L xs (t) O c) := a1
          have hne := MG_ne a2
          have at0 := a2.2.2.2.1
          have at1 := a2.2.2.2.2
          have gt : q_g (q_u t 285 11 (q_g t 285 11 + 1)) 285 13 = 5 - (r : Int) + 1 := by rw [q_gu_ne (by omega), FM_g a3 (by omega), q_gu_eq rfl, q_sg_id (by omega) (by omega)]
          refine ⟨q_u (q_u t 285 11 (q_g t 285 11 + 1)) 285 13 (5 - (r : Int)), w, ?_, aw, ⟨TxM_u (TxM_u a2.1 (by omega)) (by omega), by rw [q_gu_ne (by omega), q_gu_ne (by omega)]; exact a2.2.1, a2.2.2.1, by rw [q_gu_ne (by omega), q_gu_eq rfl, q_sg_id (by omega) (by omega)]; omega, by rw [q_gu_ne (by omega), q_gu_eq rfl, q_sg_id (by omega) (by omega)]; omega⟩, FM_trans F1 (FM_dp gd (by omega) (by omega) (FM_u a3 (by omega)))⟩
          simp (disch := first | omega | exact q_b_01 _) only [↓reduceIte, q_bk0, q_bk1, q_bk2, q_sg_b, q_b_0, q_b_n0, q_b_1, q_b_n1, q_b_T, q_b_F, q_sg_g, q_sg_sg, q_sg_xs, q_sg_id, q_gu_ne, q_gu_eq, q_g_fne, q_g_cpe, q_w_f, q_v_f, q_u_f, q_fn_f, q_cp_f, q_sg_pg, q_sg_hc, q_lt_t, q_lt_f, q_le_t, q_le_f, q_eq_t, q_eq_f, ne_eq, eq_self, Bool.false_eq_true, Bool.true_eq_false, not_true_eq_false, not_false_eq_true, true_and, and_true, false_and, and_false, true_or, or_true, false_or, or_false, if_true, if_false, Int.reduceAdd, Int.reduceMul, Int.reduceSub, Int.reduceNeg, hf0, hh, hn, hsg, gd0, g11, eu, a1', hne, gt, Int.add_sub_cancel, R_247_0, R_247_8, R_247_10, R_247_14, R_247_21, R_247_26, R_247_32, R_247_35, R_247_39, R_247_40, R_247_49, R_247_54, R_247_56, R_247_66, R_247_72, R_247_76, R_247_79, R_247_83, R_247_84, R_247_88, R_247_98, R_247_102, R_247_111, R_247_117, R_247_120, R_247_128, R_247_138, R_247_148, C_247_11, C_247_18, C_247_29, C_247_36, C_247_51, C_247_73, C_247_99, C_247_114, C_247_125]
        | inr p =>
          rw [hp] at k
          obtain ⟨i', q⟩ := p
          obtain ⟨t, w, a1, aw, a2, a3, a4, a5, a6⟩ := k
          have a1' : EV (d + 12) 249 0 [.ref 285, .null, .null] [] (q_h L xs (q_u u 285 13 (5 - (r : Int) + 1)) O c) = some (.inl (some (.int (q_I (w)))), q_h L xs (t) O c) := a1
          have a2' : MS T E (bs T E i') t := a2
          have a5' : (q.length : Int) + bs T E (i + 1) ≤ bs T E i' := a5
          have a4' : 1 ≤ q.length := a4
          have tf0 := a2'.2.1
          have t1 := MS_cur H a2'
          have hb1 := MS_b H a2'
          have le1 := MS_le H a2'
          have hsc := ms_sign (d := d + 10) (L := L) (xs := xs) (O := O) (c := c) (x := 41) H a2' (by omega) (by omega) (by omega) (by omega)
          have gb : q_g (q_u t 285 11 (bs T E i')) 285 11 = bs T E i' := by rw [q_gu_eq rfl, q_sg_id (by omega) (by omega)]
          have gt0 : q_g t 285 13 = 5 - (r : Int) + 1 := by rw [FM_g a6 (by omega), q_gu_eq rfl, q_sg_id (by omega) (by omega)]
          have en1 : bs T E (i' + 1) = nxt T E (bs T E i') := rfl
          show MSp T E F (r + 1) _ i B01 s (if tk T E i' 3 41 then .inr (i' + 1, q) else .inl (bs T E i')) _
          by_cases c3 : tk T E i' 3 41
          · rw [if_pos c3]
            rw [q_bt c3] at hsc
            have st1 := sg_tend c3.1
            have ng1 := nxt_gt (T := T) st1.2
            have m3 := MS_nxt H a2' st1.2
            rw [← en1, st1.1] at m3
            have gt : q_g (q_u t 285 11 (bs T E i' + 1)) 285 13 = 5 - (r : Int) + 1 := by rw [q_gu_ne (by omega), gt0]
            refine ⟨q_u (q_u t 285 11 (bs T E i' + 1)) 285 13 (5 - (r : Int)), w, ?_, aw, MS_fr m3 (fun z z0 z1 => by rw [q_u_n (by omega)]) (fun z => by rw [q_u_n (by omega)]) (fun z _ => by rw [q_u_n (by omega)]), fun hR => ?_, a4, ?_, FM_trans F1 (FM_dp gd (by omega) (by omega) (FM_u a6 (by omega)))⟩
            · simp (disch := first | omega | exact q_b_01 _) only [↓reduceIte, q_bk0, q_bk1, q_bk2, q_sg_b, q_b_0, q_b_n0, q_b_1, q_b_n1, q_b_T, q_b_F, q_sg_g, q_sg_sg, q_sg_xs, q_sg_id, q_gu_ne, q_gu_eq, q_g_fne, q_g_cpe, q_w_f, q_v_f, q_u_f, q_fn_f, q_cp_f, q_sg_pg, q_sg_hc, q_lt_t, q_lt_f, q_le_t, q_le_f, q_eq_t, q_eq_f, ne_eq, eq_self, Bool.false_eq_true, Bool.true_eq_false, not_true_eq_false, not_false_eq_true, true_and, and_true, false_and, and_false, true_or, or_true, false_or, or_false, if_true, if_false, Int.reduceAdd, Int.reduceMul, Int.reduceSub, Int.reduceNeg, hf0, hh, hn, hsg, gd0, g11, eu, a1', tf0, hsc, gb, q_uu_eq, gt, Int.add_sub_cancel, R_247_0, R_247_8, R_247_10, R_247_14, R_247_21, R_247_26, R_247_32, R_247_35, R_247_39, R_247_40, R_247_49, R_247_54, R_247_56, R_247_66, R_247_72, R_247_76, R_247_79, R_247_83, R_247_84, R_247_88, R_247_98, R_247_102, R_247_111, R_247_117, R_247_120, R_247_128, R_247_138, R_247_148, C_247_11, C_247_18, C_247_29, C_247_36, C_247_51, C_247_73, C_247_99, C_247_114, C_247_125]
            · obtain ⟨m1, x1, y1⟩ := a3 hR
              exact ⟨m1, by omega, y1⟩
            · show (q.length : Int) + _ ≤ bs T E (i' + 1)
              omega
          · rw [if_neg c3]
            rw [q_bf c3] at hsc
            have mw := mm_wrong (d := d + 12) (L := L) (xs := xs) (s := q_u t 285 11 (bs T E i')) (O := O) (c := c) (w := bs T E i')
            rw [if_pos t1.2.1] at mw
            have gw : q_g (q_u (q_u t 285 11 (bs T E i')) 285 12 (bs T E i')) 285 11 = bs T E i' := by rw [q_gu_ne (by omega), gb]
            have ew : q_u (q_u (q_u t 285 11 (bs T E i')) 285 12 (bs T E i')) 285 11 (bs T E i' + 1) = q_u (q_u t 285 11 (bs T E i' + 1)) 285 12 (bs T E i') := by rw [q_uu_ne (by omega), q_uu_eq]
            have gt : q_g (q_u (q_u t 285 11 (bs T E i' + 1)) 285 12 (bs T E i')) 285 13 = 5 - (r : Int) + 1 := by rw [q_gu_ne (by omega), q_gu_ne (by omega), gt0]
            have mg := MG_of (a := bs T E i' + 1) (r := r + 1) H a2' (by omega) (by omega)
            refine ⟨q_u (q_u (q_u t 285 11 (bs T E i' + 1)) 285 12 (bs T E i')) 285 13 (5 - (r : Int)), w, ?_, aw, ⟨TxM_u mg.1 (by omega), by rw [q_gu_ne (by omega)]; exact mg.2.1, mg.2.2.1, by rw [q_gu_ne (by omega)]; exact mg.2.2.2.1, by rw [q_gu_ne (by omega)]; exact mg.2.2.2.2⟩, FM_trans F1 (FM_dp gd (by omega) (by omega) (FM_u (FM_u a6 (by omega)) (by omega)))⟩
            simp (disch := first | omega | exact q_b_01 _) only [↓reduceIte, q_bk0, q_bk1, q_bk2, q_sg_b, q_b_0, q_b_n0, q_b_1, q_b_n1, q_b_T, q_b_F, q_sg_g, q_sg_sg, q_sg_xs, q_sg_id, q_gu_ne, q_gu_eq, q_g_fne, q_g_cpe, q_w_f, q_v_f, q_u_f, q_fn_f, q_cp_f, q_sg_pg, q_sg_hc, q_lt_t, q_lt_f, q_le_t, q_le_f, q_eq_t, q_eq_f, ne_eq, eq_self, Bool.false_eq_true, Bool.true_eq_false, not_true_eq_false, not_false_eq_true, true_and, and_true, false_and, and_false, true_or, or_true, false_or, or_false, if_true, if_false, Int.reduceAdd, Int.reduceMul, Int.reduceSub, Int.reduceNeg, hf0, hh, hn, hsg, gd0, g11, eu, a1', tf0, hsc, gb, mw, gw, ew, gt, Int.add_sub_cancel, R_247_0, R_247_8, R_247_10, R_247_14, R_247_21, R_247_26, R_247_32, R_247_35, R_247_39, R_247_40, R_247_49, R_247_54, R_247_56, R_247_66, R_247_72, R_247_76, R_247_79, R_247_83, R_247_84, R_247_88, R_247_98, R_247_102, R_247_111, R_247_117, R_247_120, R_247_128, R_247_138, R_247_148, C_247_11, C_247_18, C_247_29, C_247_36, C_247_51, C_247_73, C_247_99, C_247_114, C_247_125]
      · rw [if_neg c2]
        exact mm_atP H b0 hf hs (by omega) c1 c2
end MLA
