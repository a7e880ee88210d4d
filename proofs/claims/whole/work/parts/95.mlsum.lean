/-! THE REFERENCE: sums and comparisons of a law -/
def Rg (F : Int → Int) : Prop := ∀ k, 0 ≤ k → k < 7 → 0 ≤ F k ∧ F k ≤ 999
def Ge (F : Int → Int) (l : List Int) (v : Int) (M : Nat) : Prop := Rg F → ∃ m, m ≤ M ∧ Gd F l v m
def MG (T : Int → Int) (E e : Int) (r : Nat) (s : Nat → Int → Int32) : Prop := TxM T E s ∧ q_g s 285 12 = e ∧ 0 ≤ e ∧ 0 ≤ q_g s 285 11 ∧ q_g s 285 11 ≤ 410 + r
def FM (s t : Nat → Int → Int32) : Prop := ∀ k z, ¬ (k = 285 ∧ (z = 11 ∨ z = 12)) → t k z = s k z
def MSp (T : Int → Int) (E : Int) (F : Int → Int) (r M i : Nat) (Q : Int → Prop) (s : Nat → Int → Int32) (p : PR) (q : Int → (Nat → Int → Int32) → Prop) : Prop := match p with
  | .inl e => ∃ t v, q v t ∧ Q v ∧ MG T E e r t ∧ FM s t
  | .inr p => ∃ t v, q v t ∧ Q v ∧ MS T E (bs T E p.1) t ∧ Ge F p.2 v M ∧ 1 ≤ p.2.length ∧ (p.2.length : Int) + bs T E i ≤ bs T E p.1 ∧ FM s t
def Fc (F : Int → Int) (s : Nat → Int → Int32) : Prop := ∀ k, 0 ≤ k → k < 7 → q_g s 291 k = F k
section MLS
variable {d L : Nat} {xs : Nat → Int32} {s t u : Nat → Int → Int32} {O : Nat → Int64} {c : Bool × Nat × Nat} {T : Int → Int} {E b e : Int} {i : Nat} {F : Int → Int}
theorem FM_refl : FM s s := fun _ _ _ => rfl
theorem FM_trans (h : FM s t) (h' : FM t u) : FM s u := fun k z a => (h' k z a).trans (h k z a)
theorem FM_u {z v : Int} (h : FM s t) (hk : z = 11 ∨ z = 12) : FM s (q_u t 285 z v) := fun k' z' a => by
  rw [q_u_n (by omega), h k' z' a]
theorem FM_g (h : FM s t) {k : Nat} {z : Int} (hk : ¬ (k = 285 ∧ (z = 11 ∨ z = 12))) : q_g t k z = q_g s k z := by
  show (t k z).toInt = _
  rw [h k z hk]
  rfl
theorem Fc_m (h : Fc F s) (h' : FM s t) : Fc F t := fun k k0 k1 => by rw [FM_g h' (by omega)]; exact h k k0 k1
theorem MG_of {a : Int} {r : Nat} (H : TX T E) (h : MS T E b s) (a0 : 0 ≤ a) (a1 : a ≤ 410) : MG T E b r (q_u (q_u s 285 11 a) 285 12 b) := by
  obtain ⟨b0, b1, b2⟩ := MS_b H h
  refine ⟨TxM_u (TxM_u h.1 (by omega)) (by omega), by rw [q_gu_eq rfl, q_sg_id (by omega) (by omega)], b0, ?_, ?_⟩ <;> rw [q_gu_ne (by omega), q_gu_eq rfl, q_sg_id (by omega) (by omega)] <;> omega
theorem MG_ne {r : Nat} (h : MG T E e r s) : q_g s 285 12 ≠ -1 := by
  have := h.2.1
  have := h.2.2.1
  omega
theorem ms_figB (H : TX T E) (h : MS T E b s) {hi : Int} (h0 : 0 ≤ hi) (h1 : hi ≤ 999) : ((thg T E b = 2 ∧ 0 ≤ tel T E b ∧ tel T E b ≤ hi) → EV (d + 3) 234 0 [.ref 285, .int (q_I (0)), .int (q_I (hi)), .null, .null] [] (q_h L xs s O c) = some (.inl (some (.int (q_I (tel T E b)))), q_h L xs (q_u s 285 11 (tend T E b)) O c)) ∧ (¬ (thg T E b = 2 ∧ 0 ≤ tel T E b ∧ tel T E b ≤ hi) → ∃ v a, EV (d + 3) 234 0 [.ref 285, .int (q_I (0)), .int (q_I (hi)), .null, .null] [] (q_h L xs s O c) = some (.inl (some (.int (q_I (v)))), q_h L xs (q_u (q_u s 285 11 a) 285 12 b) O c) ∧ 0 ≤ a ∧ a ≤ 410) := by
  have := mm_figures (d := d) (L := L) (xs := xs) (O := O) (c := c) h.1 H.1 H.2.1 H.2.2 rfl h.2.2.2.1 (MS_k H h) h.2.1 (Int.le_refl 0) (by omega) h0 h1
  have hb := MS_b H h
  have le := MS_le H h
  have hE := H.2.1
  rw [h.2.2.1] at this
  refine ⟨this.1, fun x => ?_⟩
  obtain ⟨v, a, q1, q2, q3, q4⟩ := this.2 x
  exact ⟨v, a, q1, by omega, by omega⟩
theorem mm_part (H : TX T E) (hf : Fc F s) (hs : MS T E (bs T E i) s) : MSp T E F 0 1 i (fun _ => True) s (pPart T E i) (fun v t => EV (d + 10) 244 0 [.ref 285, .null] [] (q_h L xs s O c) = some (.inl (some (.int (q_I (v)))), q_h L xs (t) O c)) := by
  have s1 := MS_cur H hs
  have hb := MS_b H hs
  have le := MS_le H hs
  have hE := H.2.1
  have hE0 := H.1
  have hf0 := hs.2.1
  have hsk := ms_skip (d := d + 8) (L := L) (xs := xs) (O := O) (c := c) H hs
  have g10 : q_g (q_u s 285 11 (bs T E i)) 285 10 = E := s1.1.1
  have g11 : q_g (q_u s 285 11 (bs T E i)) 285 11 = bs T E i := by rw [q_gu_eq rfl, q_sg_id (by omega) (by omega)]
  have en : bs T E (i + 1) = nxt T E (bs T E i) := rfl
  unfold pPart
  by_cases c2 : thg T E (bs T E i) = 2
  · rw [if_neg (by omega)]
    have dg := dig_iff.mpr c2
    have ltr := mm_letter (d := d + 9) (L := L) (xs := xs) (O := O) (c := c) (k := bs T E i) s1.1 H.2.1 hb.1 dg.1
    obtain ⟨f1, f2⟩ := ms_figB (d := d + 6) (L := L) (xs := xs) (O := O) (c := c) (hi := 999) H s1 (by omega) (by omega)
    by_cases cv : thg T E (bs T E i) = 2 ∧ 0 ≤ tel T E (bs T E i) ∧ tel T E (bs T E i) ≤ 999
    · rw [if_pos cv]
      have q := f1 cv
      rw [q_uu_eq] at q
      have m := MS_nxt H hs dg.1
      have ng := nxt_gt (T := T) dg.1
      refine ⟨q_u s 285 11 (tend T E (bs T E i)), tel T E (bs T E i), ?_, trivial, m, fun _ => ⟨1, Nat.le_refl _, Gd.num _ cv.2.1 cv.2.2⟩, Nat.le_refl _, ?_, FM_u FM_refl (by omega)⟩
      · simp (disch := first | omega | exact q_b_01 _) only [↓reduceIte, q_bk0, q_bk1, q_bk2, q_sg_b, q_b_0, q_b_n0, q_b_1, q_b_n1, q_b_T, q_b_F, q_sg_g, q_sg_sg, q_sg_xs, q_sg_id, q_gu_ne, q_gu_eq, q_g_fne, q_g_cpe, q_w_f, q_v_f, q_u_f, q_fn_f, q_cp_f, q_sg_pg, q_sg_hc, q_lt_t, q_lt_f, q_le_t, q_le_f, q_eq_t, q_eq_f, ne_eq, eq_self, Bool.false_eq_true, Bool.true_eq_false, not_true_eq_false, not_false_eq_true, true_and, and_true, false_and, and_false, true_or, or_true, false_or, or_false, if_true, if_false, Int.reduceAdd, Int.reduceMul, Int.reduceSub, Int.reduceNeg, hf0, hsk, g10, g11, ltr, q, mm_isIn, R_244_0, R_244_8, R_244_10, R_244_14, R_244_25, R_244_33, R_244_40, R_244_43, R_244_51, R_244_52, R_244_58, R_244_61, R_244_65, R_244_71, R_244_74, R_244_78, R_244_84, R_244_87, R_244_91, R_244_97, R_244_100, R_244_104, R_244_110, R_244_113, R_244_117, R_244_123, R_244_126, R_244_130, R_244_136, R_244_139, R_244_144, R_244_145, R_244_151, R_244_159, R_244_161, R_244_167, C_244_11, C_244_30, C_244_37, C_244_48, C_244_55, C_244_68, C_244_81, C_244_94, C_244_107, C_244_120, C_244_133, C_244_156]
      · show ((1 : Nat) : Int) + bs T E i ≤ bs T E (i + 1)
        have := ng.1
        rw [en]
        omega
    · rw [if_neg cv]
      obtain ⟨v, a, q1, q2, q3⟩ := f2 cv
      rw [q_uu_eq] at q1
      refine ⟨_, v, ?_, trivial, MG_of H hs q2 q3, FM_u (FM_u FM_refl (by omega)) (by omega)⟩
      simp (disch := first | omega | exact q_b_01 _) only [↓reduceIte, q_bk0, q_bk1, q_bk2, q_sg_b, q_b_0, q_b_n0, q_b_1, q_b_n1, q_b_T, q_b_F, q_sg_g, q_sg_sg, q_sg_xs, q_sg_id, q_gu_ne, q_gu_eq, q_g_fne, q_g_cpe, q_w_f, q_v_f, q_u_f, q_fn_f, q_cp_f, q_sg_pg, q_sg_hc, q_lt_t, q_lt_f, q_le_t, q_le_f, q_eq_t, q_eq_f, ne_eq, eq_self, Bool.false_eq_true, Bool.true_eq_false, not_true_eq_false, not_false_eq_true, true_and, and_true, false_and, and_false, true_or, or_true, false_or, or_false, if_true, if_false, Int.reduceAdd, Int.reduceMul, Int.reduceSub, Int.reduceNeg, hf0, hsk, g10, g11, ltr, q1, mm_isIn, R_244_0, R_244_8, R_244_10, R_244_14, R_244_25, R_244_33, R_244_40, R_244_43, R_244_51, R_244_52, R_244_58, R_244_61, R_244_65, R_244_71, R_244_74, R_244_78, R_244_84, R_244_87, R_244_91, R_244_97, R_244_100, R_244_104, R_244_110, R_244_113, R_244_117, R_244_123, R_244_126, R_244_130, R_244_136, R_244_139, R_244_144, R_244_145, R_244_151, R_244_159, R_244_161, R_244_167, C_244_11, C_244_30, C_244_37, C_244_48, C_244_55, C_244_68, C_244_81, C_244_94, C_244_107, C_244_120, C_244_133, C_244_156]
  · have st : EV (d + 10) 244 0 [.ref 285, .null] [] (q_h L xs s O c) = EV (d + 10) 244 52 [.ref 285, .null] [] (q_h L xs (q_u s 285 11 (bs T E i)) O c) := by
      by_cases cE : bs T E i < E
      · have ltr := mm_letter (d := d + 9) (L := L) (xs := xs) (O := O) (c := c) (k := bs T E i) s1.1 H.2.1 hb.1 cE
        have tr := H.2.2 (bs T E i) hb.1 cE
        have nd : ¬ (48 ≤ T (bs T E i) ∧ T (bs T E i) ≤ 57) := fun x => c2 (dig_iff.mp ⟨cE, x⟩)
        simp (disch := first | omega | exact q_b_01 _) only [↓reduceIte, q_bk0, q_bk1, q_bk2, q_sg_b, q_b_0, q_b_n0, q_b_1, q_b_n1, q_b_T, q_b_F, q_sg_g, q_sg_sg, q_sg_xs, q_sg_id, q_gu_ne, q_gu_eq, q_g_fne, q_g_cpe, q_w_f, q_v_f, q_u_f, q_fn_f, q_cp_f, q_sg_pg, q_sg_hc, q_lt_t, q_lt_f, q_le_t, q_le_f, q_eq_t, q_eq_f, ne_eq, eq_self, Bool.false_eq_true, Bool.true_eq_false, not_true_eq_false, not_false_eq_true, true_and, and_true, false_and, and_false, true_or, or_true, false_or, or_false, if_true, if_false, Int.reduceAdd, Int.reduceMul, Int.reduceSub, Int.reduceNeg, hf0, hsk, g10, g11, ltr, mm_isIn, nd, R_244_0, R_244_8, R_244_10, R_244_14, R_244_25, R_244_33, R_244_40, R_244_43, R_244_51, R_244_58, R_244_61, R_244_65, R_244_71, R_244_74, R_244_78, R_244_84, R_244_87, R_244_91, R_244_97, R_244_100, R_244_104, R_244_110, R_244_113, R_244_117, R_244_123, R_244_126, R_244_130, R_244_136, R_244_139, R_244_144, R_244_145, R_244_151, R_244_159, R_244_161, R_244_167, C_244_11, C_244_30, C_244_37, C_244_48, C_244_55, C_244_68, C_244_81, C_244_94, C_244_107, C_244_120, C_244_133, C_244_156]
      · simp (disch := first | omega | exact q_b_01 _) only [↓reduceIte, q_bk0, q_bk1, q_bk2, q_sg_b, q_b_0, q_b_n0, q_b_1, q_b_n1, q_b_T, q_b_F, q_sg_g, q_sg_sg, q_sg_xs, q_sg_id, q_gu_ne, q_gu_eq, q_g_fne, q_g_cpe, q_w_f, q_v_f, q_u_f, q_fn_f, q_cp_f, q_sg_pg, q_sg_hc, q_lt_t, q_lt_f, q_le_t, q_le_f, q_eq_t, q_eq_f, ne_eq, eq_self, Bool.false_eq_true, Bool.true_eq_false, not_true_eq_false, not_false_eq_true, true_and, and_true, false_and, and_false, true_or, or_true, false_or, or_false, if_true, if_false, Int.reduceAdd, Int.reduceMul, Int.reduceSub, Int.reduceNeg, hf0, hsk, g10, g11, R_244_0, R_244_8, R_244_10, R_244_14, R_244_25, R_244_33, R_244_40, R_244_43, R_244_51, R_244_58, R_244_61, R_244_65, R_244_71, R_244_74, R_244_78, R_244_84, R_244_87, R_244_91, R_244_97, R_244_100, R_244_104, R_244_110, R_244_113, R_244_117, R_244_123, R_244_126, R_244_130, R_244_136, R_244_139, R_244_144, R_244_145, R_244_151, R_244_159, R_244_161, R_244_167, C_244_11, C_244_30, C_244_37, C_244_48, C_244_55, C_244_68, C_244_81, C_244_94, C_244_107, C_244_120, C_244_133, C_244_156]
    have w12 := hs_page (d := d) (L := L) (xs := xs) (O := O) (c := c) H s1
    have w13 := hs_kind (d := d) (L := L) (xs := xs) (O := O) (c := c) H s1
    have w14 := hs_wear (d := d) (L := L) (xs := xs) (O := O) (c := c) H s1
    have w15 := hs_rows (d := d) (L := L) (xs := xs) (O := O) (c := c) H s1
    have w16 := hs_version (d := d) (L := L) (xs := xs) (O := O) (c := c) H s1
    have w17 := hs_readers (d := d) (L := L) (xs := xs) (O := O) (c := c) H s1
    have w18 := hs_tick (d := d) (L := L) (xs := xs) (O := O) (c := c) H s1
    rw [q_uu_eq] at w12 w13 w14 w15 w16 w17 w18
    by_cases c1 : thg T E (bs T E i) = 1 ∧ 12 ≤ tel T E (bs T E i) ∧ tel T E (bs T E i) ≤ 18
    · rw [if_pos c1]
      have bE := thg_lt (T := T) (E := E) (b := bs T E i) (by omega)
      have m := MS_nxt H hs bE
      have ng := nxt_gt (T := T) bE
      refine ⟨q_u s 285 11 (tend T E (bs T E i)), F (tel T E (bs T E i) - 12), ?_, trivial, m, fun _ => ⟨1, Nat.le_refl _, ?_⟩, Nat.le_refl _, ?_, FM_u FM_refl (by omega)⟩
      · have fk : q_g (q_u s 285 11 (tend T E (bs T E i))) 291 (tel T E (bs T E i) - 12) = F (tel T E (bs T E i) - 12) := by
          rw [q_gu_ne (by omega)]
          exact hf _ (by omega) (by omega)
        show EV (d + 10) 244 0 [.ref 285, .null] [] (q_h L xs s O c) = _
        rw [st]
        obtain ⟨c1, t0, t1⟩ := c1
        generalize thg T E (bs T E i) = th at *
        generalize tel T E (bs T E i) = te at *
        subst c1
        obtain e | e | e | e | e | e | e : te = 12 ∨ te = 13 ∨ te = 14 ∨ te = 15 ∨ te = 16 ∨ te = 17 ∨ te = 18 := by omega
        all_goals
          subst e
          simp only [true_and, Int.reduceEq, Int.reduceSub, ↓reduceIte, q_b] at w12 w13 w14 w15 w16 w17 w18 fk
          simp (disch := first | omega | exact q_b_01 _) only [↓reduceIte, q_bk0, q_bk1, q_bk2, q_sg_b, q_b_0, q_b_n0, q_b_1, q_b_n1, q_b_T, q_b_F, q_sg_g, q_sg_sg, q_sg_xs, q_sg_id, q_gu_ne, q_gu_eq, q_g_fne, q_g_cpe, q_w_f, q_v_f, q_u_f, q_fn_f, q_cp_f, q_sg_pg, q_sg_hc, q_lt_t, q_lt_f, q_le_t, q_le_f, q_eq_t, q_eq_f, ne_eq, eq_self, Bool.false_eq_true, Bool.true_eq_false, not_true_eq_false, not_false_eq_true, true_and, and_true, false_and, and_false, true_or, or_true, false_or, or_false, if_true, if_false, Int.reduceAdd, Int.reduceMul, Int.reduceSub, Int.reduceNeg, w12, w13, w14, w15, w16, w17, w18, fk, R_244_0, R_244_8, R_244_10, R_244_14, R_244_25, R_244_33, R_244_40, R_244_43, R_244_51, R_244_52, R_244_58, R_244_61, R_244_65, R_244_71, R_244_74, R_244_78, R_244_84, R_244_87, R_244_91, R_244_97, R_244_100, R_244_104, R_244_110, R_244_113, R_244_117, R_244_123, R_244_126, R_244_130, R_244_136, R_244_139, R_244_144, R_244_145, R_244_151, R_244_159, R_244_161, R_244_167, C_244_11, C_244_30, C_244_37, C_244_48, C_244_55, C_244_68, C_244_81, C_244_94, C_244_107, C_244_120, C_244_133, C_244_156, Int.reduceSub]
      · have := Gd.fact (F := F) (tel T E (bs T E i) - 12) (by omega) (by omega)
        rw [show (1000 + (tel T E (bs T E i) - 12) : Int) = 1000 + tel T E (bs T E i) - 12 by omega] at this
        exact this
      · show ((1 : Nat) : Int) + bs T E i ≤ bs T E (i + 1)
        have := ng.1
        rw [en]
        omega
    · rw [if_neg c1, if_neg (by omega)]
      have mw := mm_wrong (d := d + 9) (L := L) (xs := xs) (s := q_u s 285 11 (bs T E i)) (O := O) (c := c) (w := bs T E i)
      rw [if_pos s1.2.1] at mw
      have z : ∀ k : Int, 12 ≤ k → k ≤ 18 → ¬ (thg T E (bs T E i) = 1 ∧ tel T E (bs T E i) = k) := fun k _ _ x => by omega
      rw [if_neg (z 12 (by omega) (by omega)), q_bf (z 12 (by omega) (by omega))] at w12
      rw [if_neg (z 13 (by omega) (by omega)), q_bf (z 13 (by omega) (by omega))] at w13
      rw [if_neg (z 14 (by omega) (by omega)), q_bf (z 14 (by omega) (by omega))] at w14
      rw [if_neg (z 15 (by omega) (by omega)), q_bf (z 15 (by omega) (by omega))] at w15
      rw [if_neg (z 16 (by omega) (by omega)), q_bf (z 16 (by omega) (by omega))] at w16
      rw [if_neg (z 17 (by omega) (by omega)), q_bf (z 17 (by omega) (by omega))] at w17
      rw [if_neg (z 18 (by omega) (by omega)), q_bf (z 18 (by omega) (by omega))] at w18
      refine ⟨_, 0, ?_, trivial, MG_of H hs hb.1 (by omega), FM_u (FM_u FM_refl (by omega)) (by omega)⟩
      rw [st]
      simp (disch := first | omega | exact q_b_01 _) only [↓reduceIte, q_bk0, q_bk1, q_bk2, q_sg_b, q_b_0, q_b_n0, q_b_1, q_b_n1, q_b_T, q_b_F, q_sg_g, q_sg_sg, q_sg_xs, q_sg_id, q_gu_ne, q_gu_eq, q_g_fne, q_g_cpe, q_w_f, q_v_f, q_u_f, q_fn_f, q_cp_f, q_sg_pg, q_sg_hc, q_lt_t, q_lt_f, q_le_t, q_le_f, q_eq_t, q_eq_f, ne_eq, eq_self, Bool.false_eq_true, Bool.true_eq_false, not_true_eq_false, not_false_eq_true, true_and, and_true, false_and, and_false, true_or, or_true, false_or, or_false, if_true, if_false, Int.reduceAdd, Int.reduceMul, Int.reduceSub, Int.reduceNeg, w12, w13, w14, w15, w16, w17, w18, g11, mw, R_244_0, R_244_8, R_244_10, R_244_14, R_244_25, R_244_33, R_244_40, R_244_43, R_244_51, R_244_52, R_244_58, R_244_61, R_244_65, R_244_71, R_244_74, R_244_78, R_244_84, R_244_87, R_244_91, R_244_97, R_244_100, R_244_104, R_244_110, R_244_113, R_244_117, R_244_123, R_244_126, R_244_130, R_244_136, R_244_139, R_244_144, R_244_145, R_244_151, R_244_159, R_244_161, R_244_167, C_244_11, C_244_30, C_244_37, C_244_48, C_244_55, C_244_68, C_244_81, C_244_94, C_244_107, C_244_120, C_244_133, C_244_156]
/-- a sum, behind its first part -/
theorem mm_amL (H : TX T E) : ∀ (f i0 i : Nat) (l : List Int) (v : Int) (s : Nat → Int → Int32), E < bs T E i + f → Fc F s → MS T E (bs T E i) s → Ge F l v 2 → 1 ≤ l.length → (l.length : Int) + bs T E i0 ≤ bs T E i → MSp T E F 0 2 i0 (fun _ => True) s (pSumL T E f i l) (fun w t => EV (d + 11) 245 5 [.ref 285, .int (q_I (v))] [] (q_h L xs s O c) = some (.inl (some (.int (q_I (w)))), q_h L xs (t) O c))
  | 0, i0, i, l, v, s, hn, hf, hs, hg, h1, hl => by
    have := MS_le H hs
    omega
  | f + 1, i0, i, l, v, s, hn, hf, hs, hg, h1, hl => by
    have s1 := MS_cur H hs
    have hb := MS_b H hs
    have hf0 := hs.2.1
    have g11 : q_g (q_u s 285 11 (bs T E i)) 285 11 = bs T E i := by rw [q_gu_eq rfl, q_sg_id (by omega) (by omega)]
    have hsg := ms_sign (d := d + 8) (L := L) (xs := xs) (O := O) (c := c) (x := 43) H hs (by omega) (by omega) (by omega) (by omega)
    unfold pSumL
    by_cases c1 : tk T E i 3 43
    · rw [if_pos c1]
      have st := sg_tend c1.1
      have ng := nxt_gt (T := T) st.2
      have en : bs T E (i + 1) = nxt T E (bs T E i) := rfl
      have m := MS_nxt H hs st.2
      rw [st.1, ← en] at m
      have F1 : FM s (q_u s 285 11 (bs T E i + 1)) := FM_u FM_refl (by omega)
      have k := mm_part (d := d) (L := L) (xs := xs) (O := O) (c := c) (i := i + 1) H (Fc_m hf F1) m
      have e1 : EV (d + 11) 245 5 [.ref 285, .int (q_I (v))] [] (q_h L xs s O c) = EV (d + 11) 245 34 [.ref 285, .int (q_I (v))] [.ref 285, .int (q_I (v))] (q_h L xs (q_u s 285 11 (bs T E i + 1)) O c) := by
        rw [R_245_5]
        simp (disch := first | omega | exact q_b_01 _) only [↓reduceIte, q_bk0, q_bk1, q_bk2, q_sg_b, q_b_0, q_b_n0, q_b_1, q_b_n1, q_b_T, q_b_F, q_sg_g, q_sg_sg, q_sg_xs, q_sg_id, q_gu_ne, q_gu_eq, q_g_fne, q_g_cpe, q_w_f, q_v_f, q_u_f, q_fn_f, q_cp_f, q_sg_pg, q_sg_hc, q_lt_t, q_lt_f, q_le_t, q_le_f, q_eq_t, q_eq_f, ne_eq, eq_self, Bool.false_eq_true, Bool.true_eq_false, not_true_eq_false, not_false_eq_true, true_and, and_true, false_and, and_false, true_or, or_true, false_or, or_false, if_true, if_false, Int.reduceAdd, Int.reduceMul, Int.reduceSub, Int.reduceNeg, hf0, hsg, q_bt c1, g11, q_uu_eq, R_245_0, R_245_4, R_245_5, R_245_13, R_245_19, R_245_22, R_245_32, R_245_37, R_245_42, C_245_1, C_245_16]
      cases hp : pPart T E (i + 1) with
      | inl e =>
        rw [hp] at k
        obtain ⟨t, w, a1, -, a2, a3⟩ := k
        have hne := MG_ne a2
        refine ⟨t, v + w, ?_, trivial, a2, FM_trans F1 a3⟩
        rw [e1]
        simp (disch := first | omega | exact q_b_01 _) only [↓reduceIte, q_bk0, q_bk1, q_bk2, q_sg_b, q_b_0, q_b_n0, q_b_1, q_b_n1, q_b_T, q_b_F, q_sg_g, q_sg_sg, q_sg_xs, q_sg_id, q_gu_ne, q_gu_eq, q_g_fne, q_g_cpe, q_w_f, q_v_f, q_u_f, q_fn_f, q_cp_f, q_sg_pg, q_sg_hc, q_lt_t, q_lt_f, q_le_t, q_le_f, q_eq_t, q_eq_f, ne_eq, eq_self, Bool.false_eq_true, Bool.true_eq_false, not_true_eq_false, not_false_eq_true, true_and, and_true, false_and, and_false, true_or, or_true, false_or, or_false, if_true, if_false, Int.reduceAdd, Int.reduceMul, Int.reduceSub, Int.reduceNeg, a1, hne, R_245_0, R_245_4, R_245_5, R_245_13, R_245_19, R_245_22, R_245_32, R_245_37, R_245_42, C_245_1, C_245_16, C_245_34]
      | inr p =>
        rw [hp] at k
        obtain ⟨i', q⟩ := p
        obtain ⟨t, w, a1, -, a2, a3, a4, a5, a6⟩ := k
        have a5' : (q.length : Int) + bs T E (i + 1) ≤ bs T E i' := a5
        have a2' : MS T E (bs T E i') t := a2
        have a4' : 1 ≤ q.length := a4
        have el : (l ++ q ++ [4000]).length = l.length + q.length + 1 := by simp only [List.length_append, List.length_cons, List.length_nil]
        have e2 : EV (d + 11) 245 5 [.ref 285, .int (q_I (v))] [] (q_h L xs s O c) = EV (d + 11) 245 5 [.ref 285, .int (q_I (v + w))] [] (q_h L xs (t) O c) := by
          rw [e1]
          simp (disch := first | omega | exact q_b_01 _) only [↓reduceIte, q_bk0, q_bk1, q_bk2, q_sg_b, q_b_0, q_b_n0, q_b_1, q_b_n1, q_b_T, q_b_F, q_sg_g, q_sg_sg, q_sg_xs, q_sg_id, q_gu_ne, q_gu_eq, q_g_fne, q_g_cpe, q_w_f, q_v_f, q_u_f, q_fn_f, q_cp_f, q_sg_pg, q_sg_hc, q_lt_t, q_lt_f, q_le_t, q_le_f, q_eq_t, q_eq_f, ne_eq, eq_self, Bool.false_eq_true, Bool.true_eq_false, not_true_eq_false, not_false_eq_true, true_and, and_true, false_and, and_false, true_or, or_true, false_or, or_false, if_true, if_false, Int.reduceAdd, Int.reduceMul, Int.reduceSub, Int.reduceNeg, a1, R_245_0, R_245_4, R_245_13, R_245_19, R_245_22, R_245_32, R_245_37, R_245_42, C_245_1, C_245_16, C_245_34]
        have F2 := FM_trans F1 a6
        have ih := mm_amL H f i0 i' (l ++ q ++ [4000]) (v + w) t (by omega) (Fc_m hf F2) a2' (fun hR => by
          obtain ⟨m1, x1, y1⟩ := hg hR
          obtain ⟨m2, x2, y2⟩ := a3 hR
          exact ⟨2, Nat.le_refl _, Gd.add y1 y2 x1 (by omega)⟩) (by omega) (by omega)
        show MSp T E F 0 2 i0 (fun _ => True) s (pSumL T E f i' (l ++ q ++ [4000])) _
        rw [e2]
        cases hq : pSumL T E f i' (l ++ q ++ [4000]) with
        | inl e =>
          rw [hq] at ih
          obtain ⟨t4, w4, r1, r2, r3, r4⟩ := ih
          exact ⟨t4, w4, r1, r2, r3, FM_trans F2 r4⟩
        | inr p =>
          rw [hq] at ih
          obtain ⟨t4, w4, r1, r2, r3, r4, r5, r6, r7⟩ := ih
          exact ⟨t4, w4, r1, r2, r3, r4, r5, r6, FM_trans F2 r7⟩
    · rw [if_neg c1]
      refine ⟨_, v, ?_, trivial, s1, hg, h1, hl, FM_u FM_refl (by omega)⟩
      show EV (d + 11) 245 5 [.ref 285, .int (q_I (v))] [] (q_h L xs s O c) = _
      rw [R_245_5]
      simp (disch := first | omega | exact q_b_01 _) only [↓reduceIte, q_bk0, q_bk1, q_bk2, q_sg_b, q_b_0, q_b_n0, q_b_1, q_b_n1, q_b_T, q_b_F, q_sg_g, q_sg_sg, q_sg_xs, q_sg_id, q_gu_ne, q_gu_eq, q_g_fne, q_g_cpe, q_w_f, q_v_f, q_u_f, q_fn_f, q_cp_f, q_sg_pg, q_sg_hc, q_lt_t, q_lt_f, q_le_t, q_le_f, q_eq_t, q_eq_f, ne_eq, eq_self, Bool.false_eq_true, Bool.true_eq_false, not_true_eq_false, not_false_eq_true, true_and, and_true, false_and, and_false, true_or, or_true, false_or, or_false, if_true, if_false, Int.reduceAdd, Int.reduceMul, Int.reduceSub, Int.reduceNeg, hf0, hsg, q_bf c1, R_245_0, R_245_4, R_245_5, R_245_13, R_245_19, R_245_22, R_245_32, R_245_37, R_245_42, C_245_1, C_245_16, C_245_34]
theorem mm_amount (H : TX T E) (hf : Fc F s) (hs : MS T E (bs T E i) s) (b1 : 0 ≤ bs T E i) : MSp T E F 0 2 i (fun _ => True) s (pSum T E i) (fun v t => EV (d + 11) 245 0 [.ref 285, .null] [] (q_h L xs s O c) = some (.inl (some (.int (q_I (v)))), q_h L xs (t) O c)) := by
  have k := mm_part (d := d) (L := L) (xs := xs) (O := O) (c := c) (i := i) H hf hs
  unfold pSum
  cases hp : pPart T E i with
  | inl e =>
    rw [hp] at k
    obtain ⟨t, w, a1, -, a2, a3⟩ := k
    have hne := MG_ne a2
    refine ⟨t, w, ?_, trivial, a2, a3⟩
    simp (disch := first | omega | exact q_b_01 _) only [↓reduceIte, q_bk0, q_bk1, q_bk2, q_sg_b, q_b_0, q_b_n0, q_b_1, q_b_n1, q_b_T, q_b_F, q_sg_g, q_sg_sg, q_sg_xs, q_sg_id, q_gu_ne, q_gu_eq, q_g_fne, q_g_cpe, q_w_f, q_v_f, q_u_f, q_fn_f, q_cp_f, q_sg_pg, q_sg_hc, q_lt_t, q_lt_f, q_le_t, q_le_f, q_eq_t, q_eq_f, ne_eq, eq_self, Bool.false_eq_true, Bool.true_eq_false, not_true_eq_false, not_false_eq_true, true_and, and_true, false_and, and_false, true_or, or_true, false_or, or_false, if_true, if_false, Int.reduceAdd, Int.reduceMul, Int.reduceSub, Int.reduceNeg, a1, hne, R_245_0, R_245_4, R_245_5, R_245_13, R_245_19, R_245_22, R_245_32, R_245_37, R_245_42, C_245_1, C_245_16, C_245_34]
  | inr p =>
    rw [hp] at k
    obtain ⟨i', q⟩ := p
    obtain ⟨t, w, a1, -, a2, a3, a4, a5, a6⟩ := k
    have a5' : (q.length : Int) + bs T E i ≤ bs T E i' := a5
    have a4' : 1 ≤ q.length := a4
    have hE := H.2.1
    have e2 : EV (d + 11) 245 0 [.ref 285, .null] [] (q_h L xs s O c) = EV (d + 11) 245 5 [.ref 285, .int (q_I (w))] [] (q_h L xs (t) O c) := by
      simp (disch := first | omega | exact q_b_01 _) only [↓reduceIte, q_bk0, q_bk1, q_bk2, q_sg_b, q_b_0, q_b_n0, q_b_1, q_b_n1, q_b_T, q_b_F, q_sg_g, q_sg_sg, q_sg_xs, q_sg_id, q_gu_ne, q_gu_eq, q_g_fne, q_g_cpe, q_w_f, q_v_f, q_u_f, q_fn_f, q_cp_f, q_sg_pg, q_sg_hc, q_lt_t, q_lt_f, q_le_t, q_le_f, q_eq_t, q_eq_f, ne_eq, eq_self, Bool.false_eq_true, Bool.true_eq_false, not_true_eq_false, not_false_eq_true, true_and, and_true, false_and, and_false, true_or, or_true, false_or, or_false, if_true, if_false, Int.reduceAdd, Int.reduceMul, Int.reduceSub, Int.reduceNeg, a1, R_245_0, R_245_4, R_245_13, R_245_19, R_245_22, R_245_32, R_245_37, R_245_42, C_245_1, C_245_16, C_245_34]
    have ih := mm_amL (d := d) (L := L) (xs := xs) (O := O) (c := c) H 400 i i' q w t (by omega) (Fc_m hf a6) a2 (fun hR => by
      obtain ⟨m1, x1, y1⟩ := a3 hR
      exact ⟨m1, by omega, y1⟩) a4 a5
    show MSp T E F 0 2 i (fun _ => True) s (pSumL T E 400 i' q) _
    rw [e2]
    cases hq : pSumL T E 400 i' q with
    | inl e =>
      rw [hq] at ih
      obtain ⟨t4, w4, r1, r2, r3, r4⟩ := ih
      exact ⟨t4, w4, r1, r2, r3, FM_trans a6 r4⟩
    | inr p =>
      rw [hq] at ih
      obtain ⟨t4, w4, r1, r2, r3, r4, r5, r6, r7⟩ := ih
      exact ⟨t4, w4, r1, r2, r3, r4, r5, r6, FM_trans a6 r7⟩
end MLS
