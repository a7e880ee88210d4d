/-! THE CLASS: a plan is made -/
noncomputable def PlanC (m : Int → Int) (T : Option Tr) (Lf : Int → Prop) (sc : Int) (u : Nat → Int → Int32) : Prop :=
  (T = none → q_g u 242 10 = -1) ∧ (∀ t, T = some t → Sub (dC u) 176 t (q_g u 242 10) ∧ Lab (dC u) (tp m) (q_g u 255) t 0 (q_g u 242 10) ∧ OwL (dC u) (tp m) (q_g u 254) t 0 (q_g u 242 10)) ∧ (q_g u 241 5 = sc ∧ ∀ j, 0 ≤ j → j < sc → q_g u 256 j = tp m (cNo T + j) ∧ q_g u 254 (tp m (cNo T + j)) = 176 + j) ∧ LoC m Lf (cNo T + sc) (1 - hd m) u ∧ q_g u 241 11 = hc m 0 + 1 ∧ q_g u 241 12 = hgh m (cNo T + sc)
noncomputable def PlnF (s u : Nat → Int → Int32) : Prop := ∀ k z, ¬ (241 ≤ k ∧ k ≤ 260) → u k z = s k z
theorem smz_find {f : Int → Int} : ∀ (n : Nat) {r : Int}, 0 ≤ r → r < smz f n → ∃ j : Int, 0 ≤ j ∧ j < n ∧ smz f j.toNat ≤ r ∧ r < smz f j.toNat + f j
  | 0, r, h0, h1 => by
    have : smz f 0 = 0 := rfl
    omega
  | n + 1, r, h0, h1 => by
    by_cases c : r < smz f n
    · obtain ⟨j, a1, a2, a3, a4⟩ := smz_find n h0 c
      exact ⟨j, a1, by omega, a3, a4⟩
    · have e : smz f (n + 1) = smz f n + f n := rfl
      exact ⟨n, by omega, by omega, by rw [show ((n : Nat) : Int).toNat = n by omega]; omega, by rw [show ((n : Nat) : Int).toNat = n by omega]; omega⟩
section OWL
variable {D : Ar} {tq ow : Int → Int}
theorem OwL_wi : ∀ {t : Tr} {k x : Int}, OwL D tq ow t k x → ∀ i, k ≤ i → i < k + cN t → Wi D t x (ow (tq i)) := by
  intro t
  induction t using Tr_rc with
  | lf p n a b =>
    try dsimp only [Wi_e1, Wi_e2, OwL_e1, OwL_e2] at *
    intro k x h i i0 i1
    by_cases hp : p = -1
    · have ec : cN (.lf p n a b) = 1 := by
        rw [cN_e1]
        rw [if_pos hp]
      have e : i = k := by omega
      rw [e]
      exact h hp
    · have ec : cN (.lf p n a b) = 0 := by
        rw [cN_e1]
        rw [if_neg hp]
      omega
  | br p n a c ih =>
    try dsimp only [Wi_e1, Wi_e2, OwL_e1, OwL_e2] at *
    intro k x h i i0 i1
    by_cases hp : p = -1
    · have ec : cN (.br p n a c) = 1 + smz (fun i => cN (c i)) n.toNat := by
        rw [cN_e2]
        rw [if_pos hp]
      obtain ⟨h1, h2⟩ := h hp
      by_cases e : i = k
      · rw [e]
        exact Or.inl h1
      · obtain ⟨j, j0, j1, j2, j3⟩ := smz_find (f := fun i => cN (c i)) n.toNat (r := i - k - 1) (by omega) (by omega)
        exact Or.inr ⟨j, j0, by omega, ih j (h2 j j0 (by omega)) i (by omega) (by omega)⟩
    · have ec : cN (.br p n a c) = 0 := by
        rw [cN_e2]
        rw [if_neg hp]
      omega
end OWL
section CM2
variable {d L : Nat} {xs : Nat → Int32} {s : Nat → Int → Int32} {O : Nat → Int64} {c : Bool × Nat × Nat} {m : Int → Int} {b n i sc : Int} {Lf : Int → Prop} {T : Option Tr} {x2 x3 : Nat}
/-- nodes, slips, rows and writes -/
theorem cc_makeC (H : RB m s 7) (I : Inv m b) (hb : b < 2147483646) (hL : LfI m Lf) (C : CTk m (fr0 m) 0 s) (hs : ∀ p, 0 ≤ p → p < 48 → q_g s 253 p = (SLm m p).toInt ∧ q_g s 254 p = -1) (hN : q_g s 241 11 = hc m 0 + 1) (hw : q_g s 241 10 = 0) (hl : LfC s Lf) (P : PTo T) (hT : T = none → q_g s 242 10 = -1) (hS : ∀ t, T = some t → Sub (dC s) (q_g s 242 9) t (q_g s 242 10)) (h9 : q_g s 242 9 ≤ 176) (Sc : ScI m (frN m Lf) (cNo T) sc) :
    (cNo T + sc ≤ cap m → ∃ u, EV (d + 15) 86 130 [.ref 241, .ref 7, .ref x2, .ref x3, .int (q_I (n)), .int (q_I (i))] [] (q_h L xs s O c) = some (.inl (some (.int (q_I (cNo T + sc + 1)))), q_h L xs (u) O c) ∧ PlanC m T Lf sc u ∧ PlnF s u) ∧ (cap m < cNo T + sc → ∃ u, EV (d + 15) 86 130 [.ref 241, .ref 7, .ref x2, .ref x3, .int (q_I (n)), .int (q_I (i))] [] (q_h L xs s O c) = some (.inl (some (.int (q_I (-1)))), q_h L xs (u) O c) ∧ PlnF s u) := by
  have Hd := inv_hd I
  have Hl := inv_ls I (by omega)
  have Tk := inv_tk I (by omega)
  have Si := inv_si I (by omega)
  have h0 := I.1.2.2.2.1
  have s0 := Sc.1
  have cp : 0 ≤ cap m := by
    have := nu_ge (m := m) (p := 48) (by omega)
    unfold cap
    omega
  -- the nodes
  have nodes : (cNo T ≤ cap m → ∃ u, EV (d + 14) 89 0 [.ref 241, .int (q_I (q_g s 242 10)), .int (q_I (0)), .null, .null] [] (q_h L xs s O c) = some (.inl (some (.int (q_I (1)))), q_h L xs (u) O c) ∧ CTk m (fr0 m) (cNo T) u ∧ (∀ t, T = some t → Lab (dC s) (tp m) (q_g u 255) t 0 (q_g s 242 10) ∧ OwL (dC s) (tp m) (q_g u 254) t 0 (q_g s 242 10)) ∧ (∀ q, (∀ i, 0 ≤ i → i < cNo T → q ≠ tp m i) → u 254 q = s 254 q) ∧ Fq s u) ∧ (cap m < cNo T → ∃ u, EV (d + 14) 89 0 [.ref 241, .int (q_I (q_g s 242 10)), .int (q_I (0)), .null, .null] [] (q_h L xs s O c) = some (.inl (some (.int (q_I (0)))), q_h L xs (u) O c) ∧ Fq s u) := by
    cases T with
    | none =>
      have hr := hT rfl
      refine ⟨fun _ => ⟨s, ?_, C, fun t h => absurd h (by simp), fun q _ => rfl, fun _ _ _ _ _ _ _ => rfl⟩, fun h => by have e : cNo none = 0 := rfl; omega⟩
      simp (disch := first | omega | exact q_b_01 _) only [↓reduceIte, q_bk0, q_bk1, q_bk2, q_sg_b, q_b_0, q_b_n0, q_b_1, q_b_n1, q_b_T, q_b_F, q_sg_g, q_sg_sg, q_sg_xs, q_sg_id, q_gu_ne, q_gu_eq, q_g_fne, q_g_cpe, q_w_f, q_v_f, q_u_f, q_fn_f, q_cp_f, q_sg_pg, q_sg_hc, q_lt_t, q_lt_f, q_le_t, q_le_f, q_eq_t, q_eq_f, ne_eq, eq_self, Bool.false_eq_true, Bool.true_eq_false, not_true_eq_false, not_false_eq_true, true_and, and_true, false_and, and_false, true_or, or_true, false_or, or_false, if_true, if_false, Int.reduceAdd, Int.reduceMul, Int.reduceSub, Int.reduceNeg, hr, R_89_0, R_89_4, R_89_11, R_89_13, R_89_22, R_89_25, R_89_32, R_89_34, R_89_38, R_89_44, R_89_50, R_89_52, R_89_59, R_89_66, R_89_75, R_89_79, R_89_82, R_89_93, R_89_96, R_89_103, R_89_119, R_89_125, R_89_128, R_89_130, R_89_136, C_89_35, C_89_122]
    | some t =>
      obtain ⟨h, h12, o, hz⟩ := P
      obtain ⟨p1, p2⟩ := cc_place (d := d + 13 - h) (L := L) (xs := xs) (O := O) (c := c) Tk FuI_0 (q_g s 242 10) 0 0 s o (hS t rfl) h9 C (by omega) (by omega) (by omega) (by omega)
      have ed : d + 13 - h + h + 1 = d + 14 := by omega
      rw [ed] at p1 p2
      have e : cNo (some t) = cN t := rfl
      rw [e]
      refine ⟨fun hk => ?_, fun hk => p2 (by omega)⟩
      obtain ⟨u, u1, u2, u3, u4, u5, u6, u7⟩ := p1 (by omega)
      rw [Int.zero_add] at u2 u6
      refine ⟨u, u1, u2, fun t' ht => ?_, u6, u7⟩
      have := Option.some.inj ht
      subst this
      exact ⟨u3, u4⟩
  obtain ⟨n1, n2⟩ := nodes
  by_cases kc : cNo T ≤ cap m
  · obtain ⟨u, u1, u2, u3, u4, u5⟩ := n1 kc
    have k0 : 0 ≤ cNo T := by
      cases T with
      | none => exact Int.le_refl _
      | some t => exact cN_0 t
    have gu : ∀ k z, ¬ (k = 241 ∧ (z = 12 ∨ z = 13)) → ¬ (k = 251 ∧ z = 2) → k ≠ 252 → k ≠ 254 → k ≠ 255 → q_g u k z = q_g s k z := fun k z a1 a2 a3 a4 a5 => by
      show (u k z).toInt = _
      rw [u5 k z a1 a2 a3 a4 a5]
      rfl
    obtain ⟨p1, p2⟩ := cc_placeSlips (d := d + 13) (L := L) (xs := xs) (s := u) (O := O) (c := c) (Lf := Lf) (kN := cNo T) (sc := sc) Tk hL Si (by rw [gu 241 11 (by omega) (by omega) (by omega) (by omega) (by omega)]; exact hN) (by omega) (by omega) u2 k0 kc (LfC_sm hl (fun z _ => ⟨u5 247 z (by omega) (by omega) (by omega) (by omega) (by omega), u5 248 z (by omega) (by omega) (by omega) (by omega) (by omega)⟩)) (fun p p0 p1 => by rw [gu 253 p (by omega) (by omega) (by omega) (by omega) (by omega)]; exact (hs p p0 p1).1) Sc
    refine ⟨fun hk => ?_, fun hk => ?_⟩
    · obtain ⟨w, w1, w2, w3, w4, w5, w6⟩ := p1 hk
      have fw : ∀ k z, ¬ (k = 241 ∧ (z = 5 ∨ z = 12 ∨ z = 13)) → ¬ (k = 251 ∧ z = 2) → k ≠ 252 → k ≠ 254 → k ≠ 255 → k ≠ 256 → w k z = s k z := fun k z a1 a2 a3 a4 a5 a6 => by rw [w6 k z a1 a2 a3 a4 a6, u5 k z (by omega) a2 a3 a4 a5]
      have gw : ∀ k z, ¬ (k = 241 ∧ (z = 5 ∨ z = 12 ∨ z = 13)) → ¬ (k = 251 ∧ z = 2) → k ≠ 252 → k ≠ 254 → k ≠ 255 → k ≠ 256 → q_g w k z = q_g s k z := fun k z a1 a2 a3 a4 a5 a6 => by
        show (w k z).toInt = _
        rw [fw k z a1 a2 a3 a4 a5 a6]
        rfl
      have w254 : ∀ i, 0 ≤ i → i < cNo T → q_g w 254 (tp m i) = q_g u 254 (tp m i) := fun i i0 i1 => by
        show (w 254 (tp m i)).toInt = _
        rw [w5 (tp m i) (fun j j0 j1 e => by have := tp_inj' Tk i0 (by omega) (by omega) (by omega) e; omega)]
        rfl
      have ow : ∀ p, 0 ≤ p → p < 48 → (q_g w 254 p ≠ -1 ↔ TK m (cNo T + sc) p) := fun p p0 p1 => by
        rw [TK_ex Tk hk (by omega)]
        constructor
        · intro hne
          refine Classical.byContradiction fun hn => hne ?_
          show (w 254 p).toInt = -1
          rw [w5 p (fun j j0 j1 e => hn ⟨cNo T + j, by omega, by omega, e⟩), u4 p (fun i i0 i1 e => hn ⟨i, i0, by omega, e⟩)]
          exact (hs p p0 p1).2
        · rintro ⟨i, i0, i1, e⟩
          rw [e]
          by_cases ei : i < cNo T
          · rw [w254 i i0 ei]
            cases T with
            | none =>
              have e : cNo none = 0 := rfl
              omega
            | some t =>
              have wi := OwL_wi (u3 t rfl).2 i i0 (by have e : cNo (some t) = cN t := rfl; omega)
              have := (hS t rfl).2.2 _ wi
              omega
          · have := (w4 (i - cNo T) (by omega) (by omega)).2
            rw [show cNo T + (i - cNo T) = i by omega] at this
            omega
      have hh := hd_01 m
      obtain ⟨y, y1, y2, y3⟩ := cc_layOut (d := d + 14) (L := L) (xs := xs) (s := w) (O := O) (c := c) (hd := 1 - hd m) Tk hL Si Hl (by omega) w2 (by omega) hk (by rw [gw 241 10 (by omega) (by omega) (by omega) (by omega) (by omega) (by omega)]; exact hw) ow (by omega) (by omega)
      have th := cc_theHead (d := d + 14) (L := L) (xs := xs) (s := w) (O := O) (c := c)
      rw [chd_eq (rb_k H (fun k z h1 h2 => fw k z (by omega) (by omega) (by omega) (by omega) (by omega) (by omega))) Hd] at th
      have gy : ∀ k z, ¬ (k = 241 ∧ (z = 8 ∨ z = 10)) → k ≠ 257 → k ≠ 258 → k ≠ 259 → q_g y k z = q_g w k z := fun k z a1 a2 a3 a4 => by
        show (y k z).toInt = _
        rw [y3 k z a1 a2 a3 a4]
        rfl
      have eDy : dC y = dC s := dC_c (fun k h1 h2 => funext fun z => by rw [y3 k z (by omega) (by omega) (by omega) (by omega), fw k z (by omega) (by omega) (by omega) (by omega) (by omega) (by omega)])
      have r10 : q_g y 242 10 = q_g s 242 10 := by rw [gy 242 10 (by omega) (by omega) (by omega) (by omega), gw 242 10 (by omega) (by omega) (by omega) (by omega) (by omega) (by omega)]
      refine ⟨y, ?_, ⟨fun h => by rw [r10]; exact hT h, fun t ht => ?_, ⟨by rw [gy 241 5 (by omega) (by omega) (by omega) (by omega)]; exact w3, fun j j0 j1 => ?_⟩, y2, ?_, ?_⟩, fun k z hk => by rw [y3 k z (by omega) (by omega) (by omega) (by omega), fw k z (by omega) (by omega) (by omega) (by omega) (by omega) (by omega)]⟩
      · simp (disch := first | omega | exact q_b_01 _) only [↓reduceIte, q_bk0, q_bk1, q_bk2, q_sg_b, q_b_0, q_b_n0, q_b_1, q_b_n1, q_b_T, q_b_F, q_sg_g, q_sg_sg, q_sg_xs, q_sg_id, q_gu_ne, q_gu_eq, q_g_fne, q_g_cpe, q_w_f, q_v_f, q_u_f, q_fn_f, q_cp_f, q_sg_pg, q_sg_hc, q_lt_t, q_lt_f, q_le_t, q_le_f, q_eq_t, q_eq_f, ne_eq, eq_self, Bool.false_eq_true, Bool.true_eq_false, not_true_eq_false, not_false_eq_true, true_and, and_true, false_and, and_false, true_or, or_true, false_or, or_false, if_true, if_false, Int.reduceAdd, Int.reduceMul, Int.reduceSub, Int.reduceNeg, u1, w1, th, y1, R_86_0, R_86_5, R_86_16, R_86_26, R_86_30, R_86_33, R_86_37, R_86_40, R_86_48, R_86_55, R_86_61, R_86_71, R_86_73, R_86_82, R_86_87, R_86_96, R_86_99, R_86_104, R_86_112, R_86_120, R_86_130, R_86_142, R_86_145, R_86_149, R_86_152, R_86_154, R_86_163, R_86_167, C_86_13, C_86_52, C_86_79, C_86_93, C_86_109, C_86_117, C_86_139, C_86_146, C_86_160, C_86_164]
        rw [y2.1]
      · obtain ⟨a1, a2⟩ := u3 t ht
        rw [eDy, r10]
        have Ss := hS t ht
        refine ⟨⟨Ss.1, Ss.2.1, fun z hz => by have := Ss.2.2 z hz; omega⟩, Lab_fr a1 (fun z _ => ?_), OwL_fr a2 (fun i i0 i1 => ?_)⟩
        · rw [gy 255 z (by omega) (by omega) (by omega) (by omega)]
          show (w 255 z).toInt = _
          rw [w6 255 z (by omega) (by omega) (by omega) (by omega) (by omega)]
          rfl
        · rw [gy 254 _ (by omega) (by omega) (by omega) (by omega)]
          refine w254 i i0 ?_
          rw [ht]
          show i < cN t
          omega
      · rw [gy 256 j (by omega) (by omega) (by omega) (by omega), gy 254 _ (by omega) (by omega) (by omega) (by omega)]
        exact w4 j j0 j1
      · rw [gy 241 11 (by omega) (by omega) (by omega) (by omega), gw 241 11 (by omega) (by omega) (by omega) (by omega) (by omega) (by omega)]
        exact hN
      · rw [gy 241 12 (by omega) (by omega) (by omega) (by omega)]
        exact w2.2.2.1
    · obtain ⟨w, w1, w2⟩ := p2 hk
      refine ⟨w, ?_, fun k z hk => by rw [w2 k z (by omega) (by omega) (by omega) (by omega) (by omega), u5 k z (by omega) (by omega) (by omega) (by omega) (by omega)]⟩
      simp (disch := first | omega | exact q_b_01 _) only [↓reduceIte, q_bk0, q_bk1, q_bk2, q_sg_b, q_b_0, q_b_n0, q_b_1, q_b_n1, q_b_T, q_b_F, q_sg_g, q_sg_sg, q_sg_xs, q_sg_id, q_gu_ne, q_gu_eq, q_g_fne, q_g_cpe, q_w_f, q_v_f, q_u_f, q_fn_f, q_cp_f, q_sg_pg, q_sg_hc, q_lt_t, q_lt_f, q_le_t, q_le_f, q_eq_t, q_eq_f, ne_eq, eq_self, Bool.false_eq_true, Bool.true_eq_false, not_true_eq_false, not_false_eq_true, true_and, and_true, false_and, and_false, true_or, or_true, false_or, or_false, if_true, if_false, Int.reduceAdd, Int.reduceMul, Int.reduceSub, Int.reduceNeg, u1, w1, R_86_0, R_86_5, R_86_16, R_86_26, R_86_30, R_86_33, R_86_37, R_86_40, R_86_48, R_86_55, R_86_61, R_86_71, R_86_73, R_86_82, R_86_87, R_86_96, R_86_99, R_86_104, R_86_112, R_86_120, R_86_130, R_86_142, R_86_145, R_86_149, R_86_152, R_86_154, R_86_163, R_86_167, C_86_13, C_86_52, C_86_79, C_86_93, C_86_109, C_86_117, C_86_139, C_86_146, C_86_160, C_86_164]
  · obtain ⟨u, u1, u2⟩ := n2 (by omega)
    refine ⟨fun hk => by omega, fun hk => ⟨u, ?_, fun k z hk => by rw [u2 k z (by omega) (by omega) (by omega) (by omega) (by omega)]⟩⟩
    simp (disch := first | omega | exact q_b_01 _) only [↓reduceIte, q_bk0, q_bk1, q_bk2, q_sg_b, q_b_0, q_b_n0, q_b_1, q_b_n1, q_b_T, q_b_F, q_sg_g, q_sg_sg, q_sg_xs, q_sg_id, q_gu_ne, q_gu_eq, q_g_fne, q_g_cpe, q_w_f, q_v_f, q_u_f, q_fn_f, q_cp_f, q_sg_pg, q_sg_hc, q_lt_t, q_lt_f, q_le_t, q_le_f, q_eq_t, q_eq_f, ne_eq, eq_self, Bool.false_eq_true, Bool.true_eq_false, not_true_eq_false, not_false_eq_true, true_and, and_true, false_and, and_false, true_or, or_true, false_or, or_false, if_true, if_false, Int.reduceAdd, Int.reduceMul, Int.reduceSub, Int.reduceNeg, u1, R_86_0, R_86_5, R_86_16, R_86_26, R_86_30, R_86_33, R_86_37, R_86_40, R_86_48, R_86_55, R_86_61, R_86_71, R_86_73, R_86_82, R_86_87, R_86_96, R_86_99, R_86_104, R_86_112, R_86_120, R_86_130, R_86_142, R_86_145, R_86_149, R_86_152, R_86_154, R_86_163, R_86_167, C_86_13, C_86_52, C_86_79, C_86_93, C_86_109, C_86_117, C_86_139, C_86_146, C_86_160, C_86_164]
end CM2
