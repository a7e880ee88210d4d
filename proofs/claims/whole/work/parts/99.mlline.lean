/-! THE REFERENCE: a line of a law, and all of them -/
def FN (s t : Nat → Int → Int32) : Prop := ∀ k z, ¬ (k = 285 ∧ (z = 11 ∨ z = 12 ∨ z = 15 ∨ z = 16)) → t k z = s k z
def dl (w n v x : Int) : Int := if w = x ∧ v = 1 then n else 0
def EvE (F : Int → Int) (ls : List (Int × Int × List Int)) (vs : Nat → Int) : Prop := ∀ k : Nat, k < ls.length → (0 ≤ (ls.getD k (0, 0, [])).2.1 ∧ (ls.getD k (0, 0, [])).2.1 ≤ 99) ∧ B01 (vs k) ∧ ((ls.getD k (0, 0, [])).2.2 = [] ∧ vs k = 1 ∨ Ge F (ls.getD k (0, 0, [])).2.2 (vs k) 17)
def Acc (R0 C0 : Int) (ls : List (Int × Int × List Int)) (vs : Nat → Int) (s : Nat → Int → Int32) : Prop := q_g s 285 15 = q_sg (R0 + tt ls vs 2 ls.length - tt ls vs 3 ls.length) ∧ q_g s 285 16 = q_sg (C0 + tt ls vs 4 ls.length)
section MLL
variable {d L : Nat} {xs : Nat → Int32} {s t u : Nat → Int → Int32} {O : Nat → Int64} {c : Bool × Nat × Nat} {T : Int → Int} {E : Int} {i : Nat} {F : Int → Int}
theorem EvE_L {ls : List (Int × Int × List Int)} {vs : Nat → Int} (hR : Rg F) (h : EvE F ls vs) : EvL F ls vs := fun k hk => by
  obtain ⟨a, b, e⟩ := h k hk
  refine ⟨a, b, ?_⟩
  rcases e with e | e
  · exact Or.inl e
  · obtain ⟨m, x, y⟩ := e hR
    exact Or.inr ⟨m, by omega, y⟩
theorem FN_refl : FN s s := fun _ _ _ => rfl
theorem FN_trans (h : FN s t) (h' : FN t u) : FN s u := fun k z a => (h' k z a).trans (h k z a)
theorem FN_of (h : FM s t) : FN s t := fun k z a => h k z (by omega)
theorem FN_u {z v : Int} (h : FN s t) (hk : z = 11 ∨ z = 12 ∨ z = 15 ∨ z = 16) : FN s (q_u t 285 z v) := fun k' z' a => by
  rw [q_u_n (by omega), h k' z' a]
theorem FN_g (h : FN s t) {k : Nat} {z : Int} (hk : ¬ (k = 285 ∧ (z = 11 ∨ z = 12 ∨ z = 15 ∨ z = 16))) : q_g t k z = q_g s k z := by
  show (t k z).toInt = _
  rw [h k z hk]
  rfl
theorem Fc_n (h : Fc F s) (h' : FN s t) : Fc F t := fun k k0 k1 => by rw [FN_g h' (by omega)]; exact h k k0 k1
theorem mm_lawAdd {k n v : Int} (hk : k = 0 ∨ k = 1 ∨ k = 2) (hv : B01 v) : ∃ t', EV (d) 250 105 [.ref 285, .int (q_I (k)), .int (q_I (n)), .int (q_I (v))] [] (q_h L xs (t) O c) = some (.inl none, q_h L xs (t') O c) ∧ q_g t' 285 15 = q_sg (q_g t 285 15 + dl (k + 2) n v 2 - dl (k + 2) n v 3) ∧ q_g t' 285 16 = q_sg (q_g t 285 16 + dl (k + 2) n v 4) ∧ ∀ k z, ¬ (k = 285 ∧ (z = 15 ∨ z = 16)) → t' k z = t k z := by
  rcases hv with e | e
  · subst e
    refine ⟨t, ?_, ?_, ?_, fun _ _ _ => rfl⟩
    · simp (disch := first | omega | exact q_b_01 _) only [↓reduceIte, q_bk0, q_bk1, q_bk2, q_sg_b, q_b_0, q_b_n0, q_b_1, q_b_n1, q_b_T, q_b_F, q_sg_g, q_sg_sg, q_sg_xs, q_sg_id, q_gu_ne, q_gu_eq, q_g_fne, q_g_cpe, q_w_f, q_v_f, q_u_f, q_fn_f, q_cp_f, q_sg_pg, q_sg_hc, q_lt_t, q_lt_f, q_le_t, q_le_f, q_eq_t, q_eq_f, ne_eq, eq_self, Bool.false_eq_true, Bool.true_eq_false, not_true_eq_false, not_false_eq_true, true_and, and_true, false_and, and_false, true_or, or_true, false_or, or_false, if_true, if_false, Int.reduceAdd, Int.reduceMul, Int.reduceSub, Int.reduceNeg, R_250_0, R_250_6, R_250_9, R_250_13, R_250_20, R_250_23, R_250_27, R_250_34, R_250_37, R_250_41, R_250_42, R_250_48, R_250_56, R_250_57, R_250_64, R_250_73, R_250_74, R_250_81, R_250_84, R_250_88, R_250_91, R_250_95, R_250_96, R_250_105, R_250_109, R_250_110, R_250_119, R_250_123, R_250_128, R_250_133, R_250_134, R_250_138, R_250_148, R_250_152, R_250_153, R_250_157, C_250_3, C_250_17, C_250_31, C_250_53, C_250_61, C_250_78, C_250_85]
    · simp [dl, q_sg_g]
    · simp [dl, q_sg_g]
  · subst e
    have g : ∀ x, q_g (q_u t 285 15 x) 285 16 = q_g t 285 16 := fun x => q_gu_ne (by omega)
    have fr : ∀ x y k z, ¬ (k = 285 ∧ (z = 15 ∨ z = 16)) → q_u (q_u t 285 15 x) 285 16 y k z = t k z := fun x y k z a => by rw [q_u_n (by omega), q_u_n (by omega)]
    rcases hk with e | e | e
    · subst e
      refine ⟨q_u (q_u t 285 15 (q_g t 285 15 + n)) 285 16 (q_g t 285 16 + 0), ?_, ?_, ?_, fr _ _⟩
      · simp (disch := first | omega | exact q_b_01 _) only [↓reduceIte, q_bk0, q_bk1, q_bk2, q_sg_b, q_b_0, q_b_n0, q_b_1, q_b_n1, q_b_T, q_b_F, q_sg_g, q_sg_sg, q_sg_xs, q_sg_id, q_gu_ne, q_gu_eq, q_g_fne, q_g_cpe, q_w_f, q_v_f, q_u_f, q_fn_f, q_cp_f, q_sg_pg, q_sg_hc, q_lt_t, q_lt_f, q_le_t, q_le_f, q_eq_t, q_eq_f, ne_eq, eq_self, Bool.false_eq_true, Bool.true_eq_false, not_true_eq_false, not_false_eq_true, true_and, and_true, false_and, and_false, true_or, or_true, false_or, or_false, if_true, if_false, Int.reduceAdd, Int.reduceMul, Int.reduceSub, Int.reduceNeg, g, R_250_0, R_250_6, R_250_9, R_250_13, R_250_20, R_250_23, R_250_27, R_250_34, R_250_37, R_250_41, R_250_42, R_250_48, R_250_56, R_250_57, R_250_64, R_250_73, R_250_74, R_250_81, R_250_84, R_250_88, R_250_91, R_250_95, R_250_96, R_250_105, R_250_109, R_250_110, R_250_119, R_250_123, R_250_128, R_250_133, R_250_134, R_250_138, R_250_148, R_250_152, R_250_153, R_250_157, C_250_3, C_250_17, C_250_31, C_250_53, C_250_61, C_250_78, C_250_85]
      · rw [q_gu_ne (by omega), q_gu_eq rfl]
        simp [dl]
      · rw [q_gu_eq rfl]
        simp [dl]
    · subst e
      refine ⟨q_u (q_u t 285 15 (q_g t 285 15 + (-n))) 285 16 (q_g t 285 16 + 0), ?_, ?_, ?_, fr _ _⟩
      · simp (disch := first | omega | exact q_b_01 _) only [↓reduceIte, q_bk0, q_bk1, q_bk2, q_sg_b, q_b_0, q_b_n0, q_b_1, q_b_n1, q_b_T, q_b_F, q_sg_g, q_sg_sg, q_sg_xs, q_sg_id, q_gu_ne, q_gu_eq, q_g_fne, q_g_cpe, q_w_f, q_v_f, q_u_f, q_fn_f, q_cp_f, q_sg_pg, q_sg_hc, q_lt_t, q_lt_f, q_le_t, q_le_f, q_eq_t, q_eq_f, ne_eq, eq_self, Bool.false_eq_true, Bool.true_eq_false, not_true_eq_false, not_false_eq_true, true_and, and_true, false_and, and_false, true_or, or_true, false_or, or_false, if_true, if_false, Int.reduceAdd, Int.reduceMul, Int.reduceSub, Int.reduceNeg, g, R_250_0, R_250_6, R_250_9, R_250_13, R_250_20, R_250_23, R_250_27, R_250_34, R_250_37, R_250_41, R_250_42, R_250_48, R_250_56, R_250_57, R_250_64, R_250_73, R_250_74, R_250_81, R_250_84, R_250_88, R_250_91, R_250_95, R_250_96, R_250_105, R_250_109, R_250_110, R_250_119, R_250_123, R_250_128, R_250_133, R_250_134, R_250_138, R_250_148, R_250_152, R_250_153, R_250_157, C_250_3, C_250_17, C_250_31, C_250_53, C_250_61, C_250_78, C_250_85]
      · rw [q_gu_ne (by omega), q_gu_eq rfl]
        simp [dl, Int.sub_eq_add_neg]
      · rw [q_gu_eq rfl]
        simp [dl]
    · subst e
      refine ⟨q_u (q_u t 285 15 (q_g t 285 15 + 0)) 285 16 (q_g t 285 16 + n), ?_, ?_, ?_, fr _ _⟩
      · simp (disch := first | omega | exact q_b_01 _) only [↓reduceIte, q_bk0, q_bk1, q_bk2, q_sg_b, q_b_0, q_b_n0, q_b_1, q_b_n1, q_b_T, q_b_F, q_sg_g, q_sg_sg, q_sg_xs, q_sg_id, q_gu_ne, q_gu_eq, q_g_fne, q_g_cpe, q_w_f, q_v_f, q_u_f, q_fn_f, q_cp_f, q_sg_pg, q_sg_hc, q_lt_t, q_lt_f, q_le_t, q_le_f, q_eq_t, q_eq_f, ne_eq, eq_self, Bool.false_eq_true, Bool.true_eq_false, not_true_eq_false, not_false_eq_true, true_and, and_true, false_and, and_false, true_or, or_true, false_or, or_false, if_true, if_false, Int.reduceAdd, Int.reduceMul, Int.reduceSub, Int.reduceNeg, g, R_250_0, R_250_6, R_250_9, R_250_13, R_250_20, R_250_23, R_250_27, R_250_34, R_250_37, R_250_41, R_250_42, R_250_48, R_250_56, R_250_57, R_250_64, R_250_73, R_250_74, R_250_81, R_250_84, R_250_88, R_250_91, R_250_95, R_250_96, R_250_105, R_250_109, R_250_110, R_250_119, R_250_123, R_250_128, R_250_133, R_250_134, R_250_138, R_250_148, R_250_152, R_250_153, R_250_157, C_250_3, C_250_17, C_250_31, C_250_53, C_250_61, C_250_78, C_250_85]
      · rw [q_gu_ne (by omega), q_gu_eq rfl]
        simp [dl]
      · rw [q_gu_eq rfl]
        simp [dl]
theorem mm_lawLine (H : TX T E) (hf : Fc F s) (hd : q_g s 285 13 = 0) (hs : MS T E (bs T E i) s) : match lLine T E i with
    | .inl e => ∃ t, EV (d + 34) 250 0 [.ref 285, .null, .null, .null] [] (q_h L xs s O c) = some (.inl none, q_h L xs (t) O c) ∧ MG T E e 6 t ∧ FN s t
    | .inr (i', w, n, l) => ∃ t v, EV (d + 34) 250 0 [.ref 285, .null, .null, .null] [] (q_h L xs s O c) = some (.inl none, q_h L xs (t) O c) ∧ MS T E (bs T E i') t ∧ B01 v ∧ (l = [] ∧ v = 1 ∨ Ge F l v 17) ∧ 0 ≤ n ∧ n ≤ 99 ∧ q_g t 285 15 = q_sg (q_g s 285 15 + dl w n v 2 - dl w n v 3) ∧ q_g t 285 16 = q_sg (q_g s 285 16 + dl w n v 4) ∧ FN s t := by
  have s1 := MS_cur H hs
  have hb := MS_b H hs
  have le := MS_le H hs
  have hE := H.2.1
  have w2 := hs_risk (d := d + 24) (L := L) (xs := xs) (O := O) (c := c) H hs
  have w3 := hs_spare (d := d + 24) (L := L) (xs := xs) (O := O) (c := c) H s1
  have w4 := hs_cost (d := d + 24) (L := L) (xs := xs) (O := O) (c := c) H s1
  rw [q_uu_eq] at w3 w4
  unfold lLine
  by_cases c1 : thg T E (bs T E i) = 1 ∧ 2 ≤ tel T E (bs T E i) ∧ tel T E (bs T E i) ≤ 4
  · rw [if_pos c1]
    have bE := thg_lt (T := T) (E := E) (b := bs T E i) (by omega)
    have m := MS_nxt H hs bE
    have ng := nxt_gt (T := T) bE
    have en : bs T E (i + 1) = nxt T E (bs T E i) := rfl
    rw [← en] at m
    have F1 : FM s (q_u s 285 11 (tend T E (bs T E i))) := FM_u FM_refl (by omega)
    generalize hu : q_u s 285 11 (tend T E (bs T E i)) = u at *
    have st : EV (d + 34) 250 0 [.ref 285, .null, .null, .null] [] (q_h L xs s O c) = EV (d + 34) 250 57 [.ref 285, .int (q_I (tel T E (bs T E i) - 2)), .null, .null] [] (q_h L xs (u) O c) := by
      obtain ⟨c1, t0, t1⟩ := c1
      generalize thg T E (bs T E i) = th at *
      generalize tel T E (bs T E i) = te at *
      subst c1
      obtain e | e | e : te = 2 ∨ te = 3 ∨ te = 4 := by omega
      all_goals
        subst e
        simp only [true_and, Int.reduceEq, ↓reduceIte, q_b, hu] at w2 w3 w4
        simp (disch := first | omega | exact q_b_01 _) only [↓reduceIte, q_bk0, q_bk1, q_bk2, q_sg_b, q_b_0, q_b_n0, q_b_1, q_b_n1, q_b_T, q_b_F, q_sg_g, q_sg_sg, q_sg_xs, q_sg_id, q_gu_ne, q_gu_eq, q_g_fne, q_g_cpe, q_w_f, q_v_f, q_u_f, q_fn_f, q_cp_f, q_sg_pg, q_sg_hc, q_lt_t, q_lt_f, q_le_t, q_le_f, q_eq_t, q_eq_f, ne_eq, eq_self, Bool.false_eq_true, Bool.true_eq_false, not_true_eq_false, not_false_eq_true, true_and, and_true, false_and, and_false, true_or, or_true, false_or, or_false, if_true, if_false, Int.reduceAdd, Int.reduceMul, Int.reduceSub, Int.reduceNeg, w2, w3, w4, R_250_0, R_250_6, R_250_9, R_250_13, R_250_20, R_250_23, R_250_27, R_250_34, R_250_37, R_250_41, R_250_42, R_250_48, R_250_56, R_250_64, R_250_73, R_250_74, R_250_81, R_250_84, R_250_88, R_250_91, R_250_95, R_250_96, R_250_105, R_250_109, R_250_110, R_250_119, R_250_123, R_250_128, R_250_133, R_250_134, R_250_138, R_250_148, R_250_152, R_250_153, R_250_157, C_250_3, C_250_17, C_250_31, C_250_53, C_250_61, C_250_78, C_250_85, Int.reduceSub]
    have hk : tel T E (bs T E i) - 2 = 0 ∨ tel T E (bs T E i) - 2 = 1 ∨ tel T E (bs T E i) - 2 = 2 := by omega
    have ek : tel T E (bs T E i) = tel T E (bs T E i) - 2 + 2 := by omega
    generalize hkk : tel T E (bs T E i) - 2 = kk at *
    rw [ek, st]
    have mb := MS_b H m
    have ml := MS_le H m
    obtain ⟨f1, f2⟩ := ms_figB (d := d + 30) (L := L) (xs := xs) (O := O) (c := c) (hi := 99) H m (by omega) (by omega)
    by_cases cv : thg T E (bs T E (i + 1)) = 2 ∧ 0 ≤ tel T E (bs T E (i + 1)) ∧ tel T E (bs T E (i + 1)) ≤ 99
    · rw [if_pos cv]
      have q := f1 cv
      have bE2 := thg_lt (T := T) (E := E) (b := bs T E (i + 1)) (by omega)
      have m2 := MS_nxt H m bE2
      have ng2 := nxt_gt (T := T) bE2
      have en2 : bs T E (i + 2) = nxt T E (bs T E (i + 1)) := rfl
      rw [← en2] at m2
      have F2 : FM u (q_u u 285 11 (tend T E (bs T E (i + 1)))) := FM_u FM_refl (by omega)
      generalize hu2 : q_u u 285 11 (tend T E (bs T E (i + 1))) = u2 at *
      have F2s := FM_trans F1 F2
      have uf := m2.2.1
      have w5 := hs_if (d := d + 24) (L := L) (xs := xs) (O := O) (c := c) H m2
      generalize hn : tel T E (bs T E (i + 1)) = n at *
      by_cases c5 : tk T E (i + 2) 1 5
      · rw [if_pos c5]
        rw [if_pos c5, q_bt c5] at w5
        have bE3 := thg_lt (T := T) (E := E) (b := bs T E (i + 2)) (by have := c5.1; omega)
        have m3 := MS_nxt H m2 bE3
        have ng3 := nxt_gt (T := T) bE3
        have en3 : bs T E (i + 3) = nxt T E (bs T E (i + 2)) := rfl
        rw [← en3] at m3
        have F3 : FM u2 (q_u u2 285 11 (tend T E (bs T E (i + 2)))) := FM_u FM_refl (by omega)
        generalize hu3 : q_u u2 285 11 (tend T E (bs T E (i + 2))) = u3 at *
        have F3s := FM_trans F2s F3
        have k := mm_some (D := d + 22) (i := i + 3) H (mm_atom (F := F) (L := L) (xs := xs) (O := O) (c := c) H 6 (d + 31) (by omega) (by omega)) (by omega) (Fc_m hf F3s) (by rw [FM_g F3s (by omega), hd]; rfl) m3
        cases hp : pC T E (pAtom T E 6) (i + 3) with
        | inl e =>
          rw [hp] at k
          obtain ⟨t, w, a1, aw, a2, a3⟩ := k
          have a1' : EV (d + 33) 249 0 [.ref 285, .null, .null] [] (q_h L xs (u3) O c) = some (.inl (some (.int (q_I (w)))), q_h L xs (t) O c) := a1
          have hne := MG_ne a2
          refine ⟨t, ?_, a2, FN_of (FM_trans F3s a3)⟩
          rcases aw with e | e <;> subst e <;> simp (disch := first | omega | exact q_b_01 _) only [↓reduceIte, q_bk0, q_bk1, q_bk2, q_sg_b, q_b_0, q_b_n0, q_b_1, q_b_n1, q_b_T, q_b_F, q_sg_g, q_sg_sg, q_sg_xs, q_sg_id, q_gu_ne, q_gu_eq, q_g_fne, q_g_cpe, q_w_f, q_v_f, q_u_f, q_fn_f, q_cp_f, q_sg_pg, q_sg_hc, q_lt_t, q_lt_f, q_le_t, q_le_f, q_eq_t, q_eq_f, ne_eq, eq_self, Bool.false_eq_true, Bool.true_eq_false, not_true_eq_false, not_false_eq_true, true_and, and_true, false_and, and_false, true_or, or_true, false_or, or_false, if_true, if_false, Int.reduceAdd, Int.reduceMul, Int.reduceSub, Int.reduceNeg, q, uf, w5, a1', hne, R_250_0, R_250_6, R_250_9, R_250_13, R_250_20, R_250_23, R_250_27, R_250_34, R_250_37, R_250_41, R_250_42, R_250_48, R_250_56, R_250_57, R_250_64, R_250_73, R_250_74, R_250_81, R_250_84, R_250_88, R_250_91, R_250_95, R_250_96, R_250_105, R_250_109, R_250_110, R_250_119, R_250_123, R_250_128, R_250_133, R_250_134, R_250_138, R_250_148, R_250_152, R_250_153, R_250_157, C_250_3, C_250_17, C_250_31, C_250_53, C_250_61, C_250_78, C_250_85]
        | inr p =>
          rw [hp] at k
          obtain ⟨i', l⟩ := p
          obtain ⟨t, w, a1, aw, a2, a3, a4, a5, a6⟩ := k
          have a1' : EV (d + 33) 249 0 [.ref 285, .null, .null] [] (q_h L xs (u3) O c) = some (.inl (some (.int (q_I (w)))), q_h L xs (t) O c) := a1
          have a2' : MS T E (bs T E i') t := a2
          have tf := a2'.2.1
          obtain ⟨t', b1, b2, b3, b4⟩ := mm_lawAdd (d := d + 34) (L := L) (xs := xs) (t := t) (O := O) (c := c) (n := n) hk aw
          have Ft := FM_trans F3s a6
          refine ⟨t', w, ?_, MS_fr a2' (fun z z0 z1 => b4 _ _ (by omega)) (fun z => b4 _ _ (by omega)) (fun z _ => b4 _ _ (by omega)), aw, Or.inr a3, by omega, by omega, ?_, ?_, fun k z a => by rw [b4 k z (by omega), Ft k z (by omega)]⟩
          · rw [← b1]
            rcases aw with e | e <;> subst e <;> simp (disch := first | omega | exact q_b_01 _) only [↓reduceIte, q_bk0, q_bk1, q_bk2, q_sg_b, q_b_0, q_b_n0, q_b_1, q_b_n1, q_b_T, q_b_F, q_sg_g, q_sg_sg, q_sg_xs, q_sg_id, q_gu_ne, q_gu_eq, q_g_fne, q_g_cpe, q_w_f, q_v_f, q_u_f, q_fn_f, q_cp_f, q_sg_pg, q_sg_hc, q_lt_t, q_lt_f, q_le_t, q_le_f, q_eq_t, q_eq_f, ne_eq, eq_self, Bool.false_eq_true, Bool.true_eq_false, not_true_eq_false, not_false_eq_true, true_and, and_true, false_and, and_false, true_or, or_true, false_or, or_false, if_true, if_false, Int.reduceAdd, Int.reduceMul, Int.reduceSub, Int.reduceNeg, q, uf, w5, a1', tf, R_250_0, R_250_6, R_250_9, R_250_13, R_250_20, R_250_23, R_250_27, R_250_34, R_250_37, R_250_41, R_250_42, R_250_48, R_250_56, R_250_57, R_250_64, R_250_73, R_250_74, R_250_81, R_250_84, R_250_88, R_250_91, R_250_95, R_250_96, R_250_109, R_250_110, R_250_119, R_250_123, R_250_128, R_250_133, R_250_134, R_250_138, R_250_148, R_250_152, R_250_153, R_250_157, C_250_3, C_250_17, C_250_31, C_250_53, C_250_61, C_250_78, C_250_85]
          · rw [b2, FM_g Ft (by omega)]
          · rw [b3, FM_g Ft (by omega)]
      · rw [if_neg c5]
        rw [if_neg c5, q_bf c5] at w5
        have m3 := MS_cur H m2
        have tf := m3.2.1
        have F3 : FM u2 (q_u u2 285 11 (bs T E (i + 2))) := FM_u FM_refl (by omega)
        generalize hu3 : q_u u2 285 11 (bs T E (i + 2)) = u3 at *
        have F3s := FM_trans F2s F3
        obtain ⟨t', b1, b2, b3, b4⟩ := mm_lawAdd (d := d + 34) (L := L) (xs := xs) (t := u3) (O := O) (c := c) (n := n) (v := 1) hk (Or.inr rfl)
        refine ⟨t', 1, ?_, MS_fr m3 (fun z z0 z1 => b4 _ _ (by omega)) (fun z => b4 _ _ (by omega)) (fun z _ => b4 _ _ (by omega)), Or.inr rfl, Or.inl ⟨rfl, rfl⟩, by omega, by omega, ?_, ?_, fun k z a => by rw [b4 k z (by omega), F3s k z (by omega)]⟩
        · rw [← b1]
          simp (disch := first | omega | exact q_b_01 _) only [↓reduceIte, q_bk0, q_bk1, q_bk2, q_sg_b, q_b_0, q_b_n0, q_b_1, q_b_n1, q_b_T, q_b_F, q_sg_g, q_sg_sg, q_sg_xs, q_sg_id, q_gu_ne, q_gu_eq, q_g_fne, q_g_cpe, q_w_f, q_v_f, q_u_f, q_fn_f, q_cp_f, q_sg_pg, q_sg_hc, q_lt_t, q_lt_f, q_le_t, q_le_f, q_eq_t, q_eq_f, ne_eq, eq_self, Bool.false_eq_true, Bool.true_eq_false, not_true_eq_false, not_false_eq_true, true_and, and_true, false_and, and_false, true_or, or_true, false_or, or_false, if_true, if_false, Int.reduceAdd, Int.reduceMul, Int.reduceSub, Int.reduceNeg, q, uf, w5, tf, R_250_0, R_250_6, R_250_9, R_250_13, R_250_20, R_250_23, R_250_27, R_250_34, R_250_37, R_250_41, R_250_42, R_250_48, R_250_56, R_250_57, R_250_64, R_250_73, R_250_74, R_250_81, R_250_84, R_250_88, R_250_91, R_250_95, R_250_96, R_250_109, R_250_110, R_250_119, R_250_123, R_250_128, R_250_133, R_250_134, R_250_138, R_250_148, R_250_152, R_250_153, R_250_157, C_250_3, C_250_17, C_250_31, C_250_53, C_250_61, C_250_78, C_250_85]
        · rw [b2, FM_g F3s (by omega)]
        · rw [b3, FM_g F3s (by omega)]
    · rw [if_neg cv]
      obtain ⟨v, a, q1, q2, q3⟩ := f2 cv
      have mg := MG_of (r := 6) H m q2 q3
      have hne := MG_ne mg
      refine ⟨_, ?_, mg, FN_trans (FN_of F1) (FN_u (FN_u FN_refl (by omega)) (by omega))⟩
      simp (disch := first | omega | exact q_b_01 _) only [↓reduceIte, q_bk0, q_bk1, q_bk2, q_sg_b, q_b_0, q_b_n0, q_b_1, q_b_n1, q_b_T, q_b_F, q_sg_g, q_sg_sg, q_sg_xs, q_sg_id, q_gu_ne, q_gu_eq, q_g_fne, q_g_cpe, q_w_f, q_v_f, q_u_f, q_fn_f, q_cp_f, q_sg_pg, q_sg_hc, q_lt_t, q_lt_f, q_le_t, q_le_f, q_eq_t, q_eq_f, ne_eq, eq_self, Bool.false_eq_true, Bool.true_eq_false, not_true_eq_false, not_false_eq_true, true_and, and_true, false_and, and_false, true_or, or_true, false_or, or_false, if_true, if_false, Int.reduceAdd, Int.reduceMul, Int.reduceSub, Int.reduceNeg, q1, hne, R_250_0, R_250_6, R_250_9, R_250_13, R_250_20, R_250_23, R_250_27, R_250_34, R_250_37, R_250_41, R_250_42, R_250_48, R_250_56, R_250_57, R_250_64, R_250_73, R_250_74, R_250_81, R_250_84, R_250_88, R_250_91, R_250_95, R_250_96, R_250_105, R_250_109, R_250_110, R_250_119, R_250_123, R_250_128, R_250_133, R_250_134, R_250_138, R_250_148, R_250_152, R_250_153, R_250_157, C_250_3, C_250_17, C_250_31, C_250_53, C_250_61, C_250_78, C_250_85]
  · rw [if_neg c1]
    have z : ∀ k : Int, 2 ≤ k → k ≤ 4 → ¬ (thg T E (bs T E i) = 1 ∧ tel T E (bs T E i) = k) := fun k _ _ x => by omega
    rw [if_neg (z 2 (by omega) (by omega)), q_bf (z 2 (by omega) (by omega))] at w2
    rw [if_neg (z 3 (by omega) (by omega)), q_bf (z 3 (by omega) (by omega))] at w3
    rw [if_neg (z 4 (by omega) (by omega)), q_bf (z 4 (by omega) (by omega))] at w4
    have g11 : q_g (q_u s 285 11 (bs T E i)) 285 11 = bs T E i := by rw [q_gu_eq rfl, q_sg_id (by omega) (by omega)]
    have mw := mm_wrong (d := d + 33) (L := L) (xs := xs) (s := q_u s 285 11 (bs T E i)) (O := O) (c := c) (w := bs T E i)
    rw [if_pos s1.2.1] at mw
    refine ⟨_, ?_, MG_of (r := 6) (a := bs T E i) H hs hb.1 (by omega), FN_u (FN_u FN_refl (by omega)) (by omega)⟩
    simp (disch := first | omega | exact q_b_01 _) only [↓reduceIte, q_bk0, q_bk1, q_bk2, q_sg_b, q_b_0, q_b_n0, q_b_1, q_b_n1, q_b_T, q_b_F, q_sg_g, q_sg_sg, q_sg_xs, q_sg_id, q_gu_ne, q_gu_eq, q_g_fne, q_g_cpe, q_w_f, q_v_f, q_u_f, q_fn_f, q_cp_f, q_sg_pg, q_sg_hc, q_lt_t, q_lt_f, q_le_t, q_le_f, q_eq_t, q_eq_f, ne_eq, eq_self, Bool.false_eq_true, Bool.true_eq_false, not_true_eq_false, not_false_eq_true, true_and, and_true, false_and, and_false, true_or, or_true, false_or, or_false, if_true, if_false, Int.reduceAdd, Int.reduceMul, Int.reduceSub, Int.reduceNeg, w2, w3, w4, g11, mw, R_250_0, R_250_6, R_250_9, R_250_13, R_250_20, R_250_23, R_250_27, R_250_34, R_250_37, R_250_41, R_250_42, R_250_48, R_250_56, R_250_57, R_250_64, R_250_73, R_250_74, R_250_81, R_250_84, R_250_88, R_250_91, R_250_95, R_250_96, R_250_105, R_250_109, R_250_110, R_250_119, R_250_123, R_250_128, R_250_133, R_250_134, R_250_138, R_250_148, R_250_152, R_250_153, R_250_157, C_250_3, C_250_17, C_250_31, C_250_53, C_250_61, C_250_78, C_250_85]
theorem tt_app {ls : List (Int × Int × List Int)} {vs vs' : Nat → Int} {w : Int} {x : Int × Int × List Int} (h : ∀ j, j < ls.length → vs' j = vs j) : ∀ k : Nat, k ≤ ls.length → tt (ls ++ [x]) vs' w k = tt ls vs w k
  | 0, _ => rfl
  | k + 1, hk => by
    have ih := tt_app (w := w) (x := x) h k (by omega)
    have e : (ls ++ [x]).getD k (0, 0, []) = ls.getD k (0, 0, []) := by simp [List.getD_eq_getElem?_getD, List.getElem?_append_left (show k < ls.length by omega)]
    unfold tt
    rw [ih, e, h k (by omega)]
theorem tt_snoc {ls : List (Int × Int × List Int)} {vs : Nat → Int} {x w n v : Int} {l : List Int} : tt (ls ++ [(w, n, l)]) (fun j => if j = ls.length then v else vs j) x (ls ++ [(w, n, l)]).length = tt ls vs x ls.length + dl w n v x := by
  have e0 : (ls ++ [(w, n, l)]).length = ls.length + 1 := by simp
  rw [e0]
  have := tt_app (ls := ls) (vs := vs) (vs' := fun j => if j = ls.length then v else vs j) (w := x) (x := (w, n, l)) (fun j hj => if_neg (by omega)) ls.length (Nat.le_refl _)
  have e : (ls ++ [(w, n, l)]).getD ls.length (0, 0, []) = (w, n, l) := by simp [List.getD_eq_getElem?_getD]
  have ev : (fun j => if j = ls.length then v else vs j) ls.length = v := if_pos rfl
  show tt (ls ++ [(w, n, l)]) (fun j => if j = ls.length then v else vs j) x ls.length + (if ((ls ++ [(w, n, l)]).getD ls.length (0, 0, [])).1 = x ∧ (fun j => if j = ls.length then v else vs j) ls.length = 1 then ((ls ++ [(w, n, l)]).getD ls.length (0, 0, [])).2.1 else 0) = _
  rw [this, e, ev]
  rfl
theorem EvE_snoc {ls : List (Int × Int × List Int)} {vs : Nat → Int} {w n v : Int} {l : List Int} (h : EvE F ls vs) (n0 : 0 ≤ n) (n1 : n ≤ 99) (hv : B01 v) (hl : l = [] ∧ v = 1 ∨ Ge F l v 17) : EvE F (ls ++ [(w, n, l)]) (fun j => if j = ls.length then v else vs j) := fun k hk => by
  have hk' : k < ls.length + 1 := by simpa using hk
  by_cases e : k = ls.length
  · subst e
    have e : (ls ++ [(w, n, l)]).getD ls.length (0, 0, []) = (w, n, l) := by simp [List.getD_eq_getElem?_getD]
    have ev : (fun j => if j = ls.length then v else vs j) ls.length = v := if_pos rfl
    rw [e, ev]
    exact ⟨⟨n0, n1⟩, hv, hl⟩
  · have e1 : (ls ++ [(w, n, l)]).getD k (0, 0, []) = ls.getD k (0, 0, []) := by simp [List.getD_eq_getElem?_getD, List.getElem?_append_left (show k < ls.length by omega)]
    have ev : (fun j => if j = ls.length then v else vs j) k = vs k := if_neg e
    rw [e1, ev]
    exact h k (by omega)
theorem q_sg_add {a b : Int} : q_sg (q_sg a + b) = q_sg (a + b) := by
  unfold q_sg q_I
  rw [Int32.ofInt_add, Int32.ofInt_toInt, ← Int32.ofInt_add]
theorem mm_lL {R0 C0 : Int} (H : TX T E) : ∀ (f : Nat) (n : Int) (i : Nat) (ls : List (Int × Int × List Int)) (vs : Nat → Int) (s : Nat → Int → Int32), n + f = 12 → n = ls.length → Fc F s → q_g s 285 13 = 0 → MS T E (bs T E i) s → EvE F ls vs → Acc R0 C0 ls vs s → (∀ e, lLines T E f i ls = .inl e → ∃ t n', EV (d + 35) 240 23 [.ref 285, .int (q_I (1)), .int (q_I (1)), .int (q_I (n))] [] (q_h L xs s O c) = some (.inl (some (.int (q_I (n')))), q_h L xs (t) O c) ∧ q_g t 285 12 = e ∧ 0 ≤ e ∧ FN s t) ∧ ∀ ls', lLines T E f i ls = .inr ls' → ∃ t vs', EV (d + 35) 240 23 [.ref 285, .int (q_I (1)), .int (q_I (1)), .int (q_I (n))] [] (q_h L xs s O c) = some (.inl (some (.int (q_I ((ls'.length : Int))))), q_h L xs (t) O c) ∧ q_g t 285 12 = -1 ∧ EvE F ls' vs' ∧ Acc R0 C0 ls' vs' t ∧ FN s t
  | 0, n, i, ls, vs, s, hj, hn, hc, hd, hs, he, ha => by
    refine ⟨fun e he => ?_, fun w' he => by simp [lLines] at he⟩
    have he' : bs T E i = e := Sum.inl.inj he
    have s1 := MS_cur H hs
    have hb := MS_b H hs
    have hf := hs.2.1
    have hsk := ms_skip (d := d + 33) (L := L) (xs := xs) (O := O) (c := c) H hs
    have mw := mm_wrong (d := d + 34) (L := L) (xs := xs) (s := q_u s 285 11 (bs T E i)) (O := O) (c := c) (w := bs T E i)
    rw [if_pos s1.2.1] at mw
    have F : MF T E (bs T E i) (q_u (q_u s 285 11 (bs T E i)) 285 12 (bs T E i)) := MF_of H hs hb.1 hb.2.1
    have sk2 := mm_skipAny (d := d + 33) (L := L) (xs := xs) (O := O) (c := c) F.1 H F.2.2.2.1 F.2.2.2.2
    have F2 := MF_sk H F
    generalize hu : q_u (q_u (q_u s 285 11 (bs T E i)) 285 12 (bs T E i)) 285 11 (sk T E (q_g (q_u (q_u s 285 11 (bs T E i)) 285 12 (bs T E i)) 285 11)) = u at sk2 F2
    have hne := MF_ne F2
    have g11 : q_g (q_u s 285 11 (bs T E i)) 285 11 = bs T E i := by rw [q_gu_eq rfl, q_sg_id (by omega) (by omega)]
    refine ⟨u, n + 1, ?_, by rw [← he']; exact F2.2.1, by omega, by rw [← hu]; exact FN_u (FN_u (FN_u FN_refl (by omega)) (by omega)) (by omega)⟩
    rw [R_240_23]
    simp (disch := first | omega | exact q_b_01 _) only [↓reduceIte, q_bk0, q_bk1, q_bk2, q_sg_b, q_b_0, q_b_n0, q_b_1, q_b_n1, q_b_T, q_b_F, q_sg_g, q_sg_sg, q_sg_xs, q_sg_id, q_gu_ne, q_gu_eq, q_g_fne, q_g_cpe, q_w_f, q_v_f, q_u_f, q_fn_f, q_cp_f, q_sg_pg, q_sg_hc, q_lt_t, q_lt_f, q_le_t, q_le_f, q_eq_t, q_eq_f, ne_eq, eq_self, Bool.false_eq_true, Bool.true_eq_false, not_true_eq_false, not_false_eq_true, true_and, and_true, false_and, and_false, true_or, or_true, false_or, or_false, if_true, if_false, Int.reduceAdd, Int.reduceMul, Int.reduceSub, Int.reduceNeg, hf, hsk, g11, mw, sk2, hne, R_240_0, R_240_4, R_240_15, R_240_19, R_240_20, R_240_23, R_240_27, R_240_35, R_240_39, R_240_44, R_240_49, R_240_51, R_240_54, R_240_62, R_240_65, R_240_69, R_240_73, R_240_76, R_240_80, R_240_87, R_240_95, R_240_106, R_240_111, R_240_117, R_240_120, R_240_130, R_240_133, R_240_141, R_240_144, C_240_1, C_240_36, C_240_59, C_240_70, C_240_77, C_240_84, C_240_114, C_240_138]
  | f + 1, n, i, ls, vs, s, hj, hn, hc, hd, hs, he, ha => by
    have s1 := MS_cur H hs
    have hf := hs.2.1
    have hsk := ms_skip (d := d + 33) (L := L) (xs := xs) (O := O) (c := c) H hs
    have F1 : FN s (q_u s 285 11 (bs T E i)) := FN_u FN_refl (by omega)
    have k := mm_lawLine (d := d) (L := L) (xs := xs) (O := O) (c := c) H (Fc_n hc F1) (by rw [FN_g F1 (by omega), hd]) s1
    unfold lLines
    cases hl : lLine T E i with
    | inl e0 =>
      rw [hl] at k
      obtain ⟨t, q1, q2, q3⟩ := k
      refine ⟨fun e he => ?_, fun w' he => by simp at he⟩
      have he' : e0 = e := Sum.inl.inj he
      have q2a := q2.2.2.2.2
      have sk2 := mm_skipAny (d := d + 33) (L := L) (xs := xs) (O := O) (c := c) q2.1 H q2.2.2.2.1 (by omega)
      have hne := MG_ne q2
      have hne2 : q_g (q_u t 285 11 (sk T E (q_g t 285 11))) 285 12 = q_g t 285 12 := q_gu_ne (by omega)
      refine ⟨q_u t 285 11 (sk T E (q_g t 285 11)), n + 1, ?_, by rw [hne2, q2.2.1, he'], by rw [← he']; exact q2.2.2.1, FN_trans F1 (FN_u q3 (by omega))⟩
      rw [R_240_23]
      simp (disch := first | omega | exact q_b_01 _) only [↓reduceIte, q_bk0, q_bk1, q_bk2, q_sg_b, q_b_0, q_b_n0, q_b_1, q_b_n1, q_b_T, q_b_F, q_sg_g, q_sg_sg, q_sg_xs, q_sg_id, q_gu_ne, q_gu_eq, q_g_fne, q_g_cpe, q_w_f, q_v_f, q_u_f, q_fn_f, q_cp_f, q_sg_pg, q_sg_hc, q_lt_t, q_lt_f, q_le_t, q_le_f, q_eq_t, q_eq_f, ne_eq, eq_self, Bool.false_eq_true, Bool.true_eq_false, not_true_eq_false, not_false_eq_true, true_and, and_true, false_and, and_false, true_or, or_true, false_or, or_false, if_true, if_false, Int.reduceAdd, Int.reduceMul, Int.reduceSub, Int.reduceNeg, hf, hsk, q1, sk2, hne, hne2, R_240_0, R_240_4, R_240_15, R_240_19, R_240_20, R_240_23, R_240_27, R_240_35, R_240_39, R_240_44, R_240_49, R_240_51, R_240_54, R_240_62, R_240_65, R_240_69, R_240_73, R_240_76, R_240_80, R_240_87, R_240_95, R_240_106, R_240_111, R_240_117, R_240_120, R_240_130, R_240_133, R_240_141, R_240_144, C_240_1, C_240_36, C_240_59, C_240_70, C_240_77, C_240_84, C_240_114, C_240_138]
    | inr p =>
      rw [hl] at k
      obtain ⟨i', w, n1, l⟩ := p
      obtain ⟨t, v, q1, q2, q3, q4, q5, q6, q7, q8, q9⟩ := k
      have q2 : MS T E (bs T E i') t := q2
      have hb := MS_b H q2
      have sk2 := ms_skip (d := d + 33) (L := L) (xs := xs) (O := O) (c := c) H q2
      have t1 := MS_cur H q2
      have hf1 := t1.2.1
      have g10 : q_g (q_u t 285 11 (bs T E i')) 285 10 = E := t1.1.1
      have g11 : q_g (q_u t 285 11 (bs T E i')) 285 11 = bs T E i' := by rw [q_gu_eq rfl, q_sg_id (by omega) (by omega)]
      have hE := H.1
      have hE1 := H.2.1
      have le : bs T E i' ≤ E := MS_le H q2
      have ev := EvE_snoc (w := w) he q5 q6 q3 q4
      have ac : ∀ x, Acc R0 C0 (ls ++ [(w, n1, l)]) (fun j => if j = ls.length then v else vs j) (q_u t 285 11 x) := fun x => by
        refine ⟨?_, ?_⟩
        · rw [tt_snoc, tt_snoc, q_gu_ne (by omega), q7, q_gu_ne (by omega), ha.1, Int.sub_eq_add_neg, Int.add_assoc, q_sg_add]
          congr 1
          omega
        · rw [tt_snoc, q_gu_ne (by omega), q8, q_gu_ne (by omega), ha.2, q_sg_add]
          congr 1
          omega
      show (∀ e, (if thg T E (bs T E i') = 0 then Sum.inr (ls ++ [(w, n1, l)]) else if tk T E i' 3 59 then lLines T E f (i' + 1) (ls ++ [(w, n1, l)]) else Sum.inl (bs T E i')) = Sum.inl e → _) ∧ ∀ ls', (if thg T E (bs T E i') = 0 then Sum.inr (ls ++ [(w, n1, l)]) else if tk T E i' 3 59 then lLines T E f (i' + 1) (ls ++ [(w, n1, l)]) else Sum.inl (bs T E i')) = Sum.inr ls' → _
      have el : ((ls ++ [(w, n1, l)]).length : Int) = n + 1 := by
        rw [List.length_append, hn]
        simp
      by_cases c0 : thg T E (bs T E i') = 0
      · rw [if_pos c0]
        refine ⟨fun e he => by simp at he, fun w' he => ?_⟩
        have he' : ls ++ [(w, n1, l)] = w' := Sum.inr.inj he
        subst he'
        have be : bs T E i' = E := by
          have := thg_ge c0
          omega
        refine ⟨q_u t 285 11 (bs T E i'), _, ?_, hf1, ev, ac _, FN_trans F1 (FN_u q9 (by omega))⟩
        rw [el, R_240_23]
        have g11e := g11.trans be
        simp (disch := first | omega | exact q_b_01 _) only [↓reduceIte, q_bk0, q_bk1, q_bk2, q_sg_b, q_b_0, q_b_n0, q_b_1, q_b_n1, q_b_T, q_b_F, q_sg_g, q_sg_sg, q_sg_xs, q_sg_id, q_gu_ne, q_gu_eq, q_g_fne, q_g_cpe, q_w_f, q_v_f, q_u_f, q_fn_f, q_cp_f, q_sg_pg, q_sg_hc, q_lt_t, q_lt_f, q_le_t, q_le_f, q_eq_t, q_eq_f, ne_eq, eq_self, Bool.false_eq_true, Bool.true_eq_false, not_true_eq_false, not_false_eq_true, true_and, and_true, false_and, and_false, true_or, or_true, false_or, or_false, if_true, if_false, Int.reduceAdd, Int.reduceMul, Int.reduceSub, Int.reduceNeg, hf, hsk, q1, sk2, hf1, g10, g11e, R_240_0, R_240_4, R_240_15, R_240_19, R_240_20, R_240_27, R_240_35, R_240_39, R_240_44, R_240_49, R_240_51, R_240_54, R_240_62, R_240_65, R_240_69, R_240_73, R_240_76, R_240_80, R_240_87, R_240_95, R_240_106, R_240_111, R_240_117, R_240_120, R_240_130, R_240_133, R_240_141, R_240_144, C_240_1, C_240_36, C_240_59, C_240_70, C_240_77, C_240_84, C_240_114, C_240_138]
        rw [R_240_23]
        simp (disch := first | omega | exact q_b_01 _) only [↓reduceIte, q_bk0, q_bk1, q_bk2, q_sg_b, q_b_0, q_b_n0, q_b_1, q_b_n1, q_b_T, q_b_F, q_sg_g, q_sg_sg, q_sg_xs, q_sg_id, q_gu_ne, q_gu_eq, q_g_fne, q_g_cpe, q_w_f, q_v_f, q_u_f, q_fn_f, q_cp_f, q_sg_pg, q_sg_hc, q_lt_t, q_lt_f, q_le_t, q_le_f, q_eq_t, q_eq_f, ne_eq, eq_self, Bool.false_eq_true, Bool.true_eq_false, not_true_eq_false, not_false_eq_true, true_and, and_true, false_and, and_false, true_or, or_true, false_or, or_false, if_true, if_false, Int.reduceAdd, Int.reduceMul, Int.reduceSub, Int.reduceNeg, R_240_0, R_240_4, R_240_15, R_240_19, R_240_20, R_240_27, R_240_35, R_240_39, R_240_44, R_240_49, R_240_51, R_240_54, R_240_62, R_240_65, R_240_69, R_240_73, R_240_76, R_240_80, R_240_87, R_240_95, R_240_106, R_240_111, R_240_117, R_240_120, R_240_130, R_240_133, R_240_141, R_240_144, C_240_1, C_240_36, C_240_59, C_240_70, C_240_77, C_240_84, C_240_114, C_240_138]
      · rw [if_neg c0]
        have bE := thg_lt c0
        have hsg := ms_sign (d := d + 32) (L := L) (xs := xs) (O := O) (c := c) (x := 59) H t1 (by omega) (by omega) (by omega) (by omega)
        rw [q_uu_eq] at hsg
        by_cases c9 : tk T E i' 3 59
        · rw [if_pos c9]
          have en : nxt T E (bs T E i') = bs T E (i' + 1) := rfl
          have s3 := MS_nxt H q2 bE
          rw [en, (sg_tend c9.1).1] at s3
          have st : EV (d + 35) 240 23 [.ref 285, .int (q_I (1)), .int (q_I (1)), .int (q_I (n))] [] (q_h L xs s O c) = EV (d + 35) 240 23 [.ref 285, .int (q_I (1)), .int (q_I (1)), .int (q_I (n + 1))] [] (q_h L xs (q_u t 285 11 (bs T E i' + 1)) O c) := by
            rw [R_240_23]
            simp (disch := first | omega | exact q_b_01 _) only [↓reduceIte, q_bk0, q_bk1, q_bk2, q_sg_b, q_b_0, q_b_n0, q_b_1, q_b_n1, q_b_T, q_b_F, q_sg_g, q_sg_sg, q_sg_xs, q_sg_id, q_gu_ne, q_gu_eq, q_g_fne, q_g_cpe, q_w_f, q_v_f, q_u_f, q_fn_f, q_cp_f, q_sg_pg, q_sg_hc, q_lt_t, q_lt_f, q_le_t, q_le_f, q_eq_t, q_eq_f, ne_eq, eq_self, Bool.false_eq_true, Bool.true_eq_false, not_true_eq_false, not_false_eq_true, true_and, and_true, false_and, and_false, true_or, or_true, false_or, or_false, if_true, if_false, Int.reduceAdd, Int.reduceMul, Int.reduceSub, Int.reduceNeg, hf, hsk, q1, sk2, hf1, g10, g11, hsg, q_bt c9, q_uu_eq, R_240_0, R_240_4, R_240_15, R_240_19, R_240_20, R_240_27, R_240_35, R_240_39, R_240_44, R_240_49, R_240_51, R_240_54, R_240_62, R_240_65, R_240_69, R_240_73, R_240_76, R_240_80, R_240_87, R_240_95, R_240_106, R_240_111, R_240_117, R_240_120, R_240_130, R_240_133, R_240_141, R_240_144, C_240_1, C_240_36, C_240_59, C_240_70, C_240_77, C_240_84, C_240_114, C_240_138]
          have F3 : FN s (q_u t 285 11 (bs T E i' + 1)) := FN_trans F1 (FN_u q9 (by omega))
          obtain ⟨n1', n2⟩ := mm_lL H f (n + 1) (i' + 1) (ls ++ [(w, n1, l)]) _ _ (by omega) el.symm (Fc_n hc F3) (by rw [FN_g F3 (by omega), hd]) s3 ev (ac _)
          rw [st]
          refine ⟨fun e he => ?_, fun w' he => ?_⟩
          · obtain ⟨t', n', r1, r2, r3, r4⟩ := n1' e he
            exact ⟨t', n', r1, r2, r3, FN_trans F3 r4⟩
          · obtain ⟨t', n', r1, r2, r3, r4, r5⟩ := n2 w' he
            exact ⟨t', n', r1, r2, r3, r4, FN_trans F3 r5⟩
        · rw [if_neg c9]
          refine ⟨fun e he => ?_, fun w' he => by simp at he⟩
          have he' : bs T E i' = e := Sum.inl.inj he
          have mw := mm_wrong (d := d + 34) (L := L) (xs := xs) (s := q_u t 285 11 (bs T E i')) (O := O) (c := c) (w := bs T E i')
          rw [if_pos hf1] at mw
          have F : MF T E (bs T E i') (q_u (q_u t 285 11 (bs T E i')) 285 12 (bs T E i')) := MF_of H q2 hb.1 hb.2.1
          have hne := MF_ne F
          refine ⟨q_u (q_u t 285 11 (bs T E i')) 285 12 (bs T E i'), n + 1, ?_, by rw [← he']; exact F.2.1, by omega, FN_trans F1 (FN_u (FN_u q9 (by omega)) (by omega))⟩
          rw [R_240_23]
          simp (disch := first | omega | exact q_b_01 _) only [↓reduceIte, q_bk0, q_bk1, q_bk2, q_sg_b, q_b_0, q_b_n0, q_b_1, q_b_n1, q_b_T, q_b_F, q_sg_g, q_sg_sg, q_sg_xs, q_sg_id, q_gu_ne, q_gu_eq, q_g_fne, q_g_cpe, q_w_f, q_v_f, q_u_f, q_fn_f, q_cp_f, q_sg_pg, q_sg_hc, q_lt_t, q_lt_f, q_le_t, q_le_f, q_eq_t, q_eq_f, ne_eq, eq_self, Bool.false_eq_true, Bool.true_eq_false, not_true_eq_false, not_false_eq_true, true_and, and_true, false_and, and_false, true_or, or_true, false_or, or_false, if_true, if_false, Int.reduceAdd, Int.reduceMul, Int.reduceSub, Int.reduceNeg, hf, hsk, q1, sk2, hf1, g10, g11, hsg, q_bf c9, mw, R_240_0, R_240_4, R_240_15, R_240_19, R_240_20, R_240_27, R_240_35, R_240_39, R_240_44, R_240_49, R_240_51, R_240_54, R_240_62, R_240_65, R_240_69, R_240_73, R_240_76, R_240_80, R_240_87, R_240_95, R_240_106, R_240_111, R_240_117, R_240_120, R_240_130, R_240_133, R_240_141, R_240_144, C_240_1, C_240_36, C_240_59, C_240_70, C_240_77, C_240_84, C_240_114, C_240_138]
          rw [R_240_23]
          simp (disch := first | omega | exact q_b_01 _) only [↓reduceIte, q_bk0, q_bk1, q_bk2, q_sg_b, q_b_0, q_b_n0, q_b_1, q_b_n1, q_b_T, q_b_F, q_sg_g, q_sg_sg, q_sg_xs, q_sg_id, q_gu_ne, q_gu_eq, q_g_fne, q_g_cpe, q_w_f, q_v_f, q_u_f, q_fn_f, q_cp_f, q_sg_pg, q_sg_hc, q_lt_t, q_lt_f, q_le_t, q_le_f, q_eq_t, q_eq_f, ne_eq, eq_self, Bool.false_eq_true, Bool.true_eq_false, not_true_eq_false, not_false_eq_true, true_and, and_true, false_and, and_false, true_or, or_true, false_or, or_false, if_true, if_false, Int.reduceAdd, Int.reduceMul, Int.reduceSub, Int.reduceNeg, hne, R_240_0, R_240_4, R_240_15, R_240_19, R_240_20, R_240_27, R_240_35, R_240_39, R_240_44, R_240_49, R_240_51, R_240_54, R_240_62, R_240_65, R_240_69, R_240_73, R_240_76, R_240_80, R_240_87, R_240_95, R_240_106, R_240_111, R_240_117, R_240_120, R_240_130, R_240_133, R_240_141, R_240_144, C_240_1, C_240_36, C_240_59, C_240_70, C_240_77, C_240_84, C_240_114, C_240_138]
/-- the lines of a law -/
theorem mm_reads1 (H : TX T E) (hc : Fc F s) (hd : q_g s 285 13 = 0) (hs : MS T E (bs T E 0) s) : (∀ e, lAll T E = .inl e → ∃ t n', EV (d + 35) 240 0 [.ref 285, .int (q_I (1)), .null, .null] [] (q_h L xs s O c) = some (.inl (some (.int (q_I (n')))), q_h L xs (t) O c) ∧ q_g t 285 12 = e ∧ 0 ≤ e ∧ FN s t) ∧ ∀ ls, lAll T E = .inr ls → ∃ t vs, EV (d + 35) 240 0 [.ref 285, .int (q_I (1)), .null, .null] [] (q_h L xs s O c) = some (.inl (some (.int (q_I ((ls.length : Int))))), q_h L xs (t) O c) ∧ q_g t 285 12 = -1 ∧ EvE F ls vs ∧ Acc (q_g s 285 15) (q_g s 285 16) ls vs t ∧ FN s t := by
  have s1 := MS_cur H hs
  have hsk := ms_skip (d := d + 33) (L := L) (xs := xs) (O := O) (c := c) H hs
  have hb := MS_b H hs
  have hE := H.1
  have hE1 := H.2.1
  have le := MS_le H hs
  have g10 : q_g (q_u s 285 11 (bs T E 0)) 285 10 = E := s1.1.1
  have g11 : q_g (q_u s 285 11 (bs T E 0)) 285 11 = bs T E 0 := by rw [q_gu_eq rfl, q_sg_id (by omega) (by omega)]
  have F1 : FN s (q_u s 285 11 (bs T E 0)) := FN_u FN_refl (by omega)
  have e0 : EvE F [] (fun _ => 0) := fun k hk => by simp at hk
  have a0 : Acc (q_g s 285 15) (q_g s 285 16) [] (fun _ => 0) (q_u s 285 11 (bs T E 0)) := by
    refine ⟨?_, ?_⟩
    · rw [q_gu_ne (by omega)]
      show _ = q_sg (q_g s 285 15 + 0 - 0)
      rw [Int.add_zero, Int.sub_zero, q_sg_g]
    · rw [q_gu_ne (by omega)]
      show _ = q_sg (q_g s 285 16 + 0)
      rw [Int.add_zero, q_sg_g]
  unfold lAll
  by_cases c0 : thg T E (bs T E 0) = 0
  · rw [if_pos c0]
    refine ⟨fun e he => by simp at he, fun w' he => ?_⟩
    have he' : [] = w' := Sum.inr.inj he
    subst he'
    have be := thg_ge c0
    refine ⟨q_u s 285 11 (bs T E 0), _, ?_, s1.2.1, e0, a0, F1⟩
    show EV (d + 35) 240 0 [.ref 285, .int (q_I (1)), .null, .null] [] (q_h L xs s O c) = some (.inl (some (.int (q_I (0)))), q_h L xs (q_u s 285 11 (bs T E 0)) O c)
    simp (disch := first | omega | exact q_b_01 _) only [↓reduceIte, q_bk0, q_bk1, q_bk2, q_sg_b, q_b_0, q_b_n0, q_b_1, q_b_n1, q_b_T, q_b_F, q_sg_g, q_sg_sg, q_sg_xs, q_sg_id, q_gu_ne, q_gu_eq, q_g_fne, q_g_cpe, q_w_f, q_v_f, q_u_f, q_fn_f, q_cp_f, q_sg_pg, q_sg_hc, q_lt_t, q_lt_f, q_le_t, q_le_f, q_eq_t, q_eq_f, ne_eq, eq_self, Bool.false_eq_true, Bool.true_eq_false, not_true_eq_false, not_false_eq_true, true_and, and_true, false_and, and_false, true_or, or_true, false_or, or_false, if_true, if_false, Int.reduceAdd, Int.reduceMul, Int.reduceSub, Int.reduceNeg, hsk, g10, g11, R_240_0, R_240_4, R_240_15, R_240_19, R_240_20, R_240_23, R_240_27, R_240_35, R_240_39, R_240_44, R_240_49, R_240_51, R_240_54, R_240_62, R_240_65, R_240_69, R_240_73, R_240_76, R_240_80, R_240_87, R_240_95, R_240_106, R_240_111, R_240_117, R_240_120, R_240_130, R_240_133, R_240_141, R_240_144, C_240_1, C_240_36, C_240_59, C_240_70, C_240_77, C_240_84, C_240_114, C_240_138]
  · rw [if_neg c0]
    have bE := thg_lt c0
    have st : EV (d + 35) 240 0 [.ref 285, .int (q_I (1)), .null, .null] [] (q_h L xs s O c) = EV (d + 35) 240 23 [.ref 285, .int (q_I (1)), .int (q_I (1)), .int (q_I (0))] [] (q_h L xs (q_u s 285 11 (bs T E 0)) O c) := by
      simp (disch := first | omega | exact q_b_01 _) only [↓reduceIte, q_bk0, q_bk1, q_bk2, q_sg_b, q_b_0, q_b_n0, q_b_1, q_b_n1, q_b_T, q_b_F, q_sg_g, q_sg_sg, q_sg_xs, q_sg_id, q_gu_ne, q_gu_eq, q_g_fne, q_g_cpe, q_w_f, q_v_f, q_u_f, q_fn_f, q_cp_f, q_sg_pg, q_sg_hc, q_lt_t, q_lt_f, q_le_t, q_le_f, q_eq_t, q_eq_f, ne_eq, eq_self, Bool.false_eq_true, Bool.true_eq_false, not_true_eq_false, not_false_eq_true, true_and, and_true, false_and, and_false, true_or, or_true, false_or, or_false, if_true, if_false, Int.reduceAdd, Int.reduceMul, Int.reduceSub, Int.reduceNeg, hsk, g10, g11, R_240_0, R_240_4, R_240_15, R_240_19, R_240_20, R_240_27, R_240_35, R_240_39, R_240_44, R_240_49, R_240_51, R_240_54, R_240_62, R_240_65, R_240_69, R_240_73, R_240_76, R_240_80, R_240_87, R_240_95, R_240_106, R_240_111, R_240_117, R_240_120, R_240_130, R_240_133, R_240_141, R_240_144, C_240_1, C_240_36, C_240_59, C_240_70, C_240_77, C_240_84, C_240_114, C_240_138]
    rw [st]
    obtain ⟨n1, n2⟩ := mm_lL (d := d) (L := L) (xs := xs) (O := O) (c := c) H 12 0 0 [] (fun _ => 0) _ (by omega) rfl (Fc_n hc F1) (by rw [FN_g F1 (by omega), hd]) s1 e0 a0
    refine ⟨fun e he => ?_, fun w' he => ?_⟩
    · obtain ⟨t', n', r1, r2, r3, r4⟩ := n1 e he
      exact ⟨t', n', r1, r2, r3, FN_trans F1 r4⟩
    · obtain ⟨t', n', r1, r2, r3, r4, r5⟩ := n2 w' he
      exact ⟨t', n', r1, r2, r3, r4, FN_trans F1 r5⟩
end MLL
