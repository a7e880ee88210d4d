/-! SLIPS: what is free from now on, and how many pages its list takes; the class -/
section CLS
noncomputable def frN (m : Int → Int) (Lf : Int → Prop) (p : Int) : Int := @ite _ (Lf p ∨ p ∈ SLs m) (Classical.propDecidable _) (hc m 0 + 1) (FRm m p).toInt
noncomputable def fr0 (m : Int → Int) (p : Int) : Int := (FRm m p).toInt
/-- pages that are left stand in no list -/
noncomputable def LfI (m : Int → Int) (Lf : Int → Prop) : Prop := ∀ p, Lf p → 2 ≤ p ∧ p < hc m 3 ∧ (FRm m p).toInt = -1 ∧ p ∉ SLs m
noncomputable def SlI (m : Int → Int) : Prop := ∀ p, p ∈ SLs m → 2 ≤ p ∧ p < hc m 3 ∧ (FRm m p).toInt = -1
noncomputable def rwl (m F : Int → Int) (k : Int) : Int := q_S (fun p => q_b (F p ≠ -1)) 0 48 - (if k < nu m 48 then k else nu m 48)
noncomputable def ScI (m F : Int → Int) (kN sc : Int) : Prop := 0 ≤ sc ∧ sc ≤ 8 ∧ (∀ i, 0 ≤ i → i < sc → 6 * i < rwl m F (kN + i)) ∧ rwl m F (kN + sc) ≤ 6 * sc
variable {d L : Nat} {xs : Nat → Int32} {s u : Nat → Int → Int32} {O : Nat → Int64} {c : Bool × Nat × Nat} {m F G : Int → Int} {Lf : Int → Prop} {k kN sc p : Int}
theorem frN_y (h : Lf p ∨ p ∈ SLs m) : frN m Lf p = hc m 0 + 1 := if_pos h
theorem frN_n (h : ¬ (Lf p ∨ p ∈ SLs m)) : frN m Lf p = fr0 m p := if_neg h
theorem FuI_0 : FuI m (fr0 m) := fun p _ _ => Iff.rfl
theorem FuI_N (hL : LfI m Lf) (hS : SlI m) : FuI m (frN m Lf) := fun p _ _ => by
  by_cases h : Lf p ∨ p ∈ SLs m
  · rw [frN_y h]
    have e : (FRm m p).toInt = -1 := h.elim (fun h => (hL p h).2.2.1) (fun h => (hS p h).2.2)
    constructor
    · rintro ⟨-, q⟩
      have := ((LM_iff m _).mp q).1
      omega
    · exact fun q => absurd e q.1
  · rw [frN_n h]
    exact Iff.rfl
theorem rwl_rg (h0 : 0 ≤ k) : rwl m F k ≤ 48 := by
  have rb := q_S_bd (f := fun p => q_b (F p ≠ -1)) (lo := 0) (hi := 48) (a := 0) (b := 1) (fun i _ _ => by have := q_b_01 (F i ≠ -1); omega) (by omega)
  have n0 := nu_ge (m := m) (p := 48) (by omega)
  unfold rwl
  split <;> omega
theorem sc_ex (m F : Int → Int) (h0 : 0 ≤ kN) : ∃ sc, ScI m F kN sc := by
  have key : ∀ n : Nat, n ≤ 8 → (∃ sc, ScI m F kN sc) ∨ ∀ i : Int, 0 ≤ i → i < n → 6 * i < rwl m F (kN + i) := fun n => by
    induction n with
    | zero => exact fun _ => Or.inr (fun i i0 i1 => by omega)
    | succ n ih =>
      intro hn
      rcases ih (by omega) with h | h
      · exact Or.inl h
      · by_cases e : rwl m F (kN + n) ≤ 6 * n
        · exact Or.inl ⟨n, by omega, by omega, fun i i0 i1 => h i i0 i1, e⟩
        · refine Or.inr (fun i i0 i1 => ?_)
          by_cases e' : i = n
          · rw [e']
            omega
          · exact h i i0 (by omega)
  rcases key 8 (by omega) with h | h
  · exact h
  · exact ⟨8, by omega, by omega, h, by have := rwl_rg (m := m) (F := F) (k := kN + 8) (by omega); omega⟩
theorem CTk_c (C : CTk m F k s) (h : ∀ p, 0 ≤ p → p < 48 → G p = F p) : CTk m G k s := by
  obtain ⟨c1, c2, c3, c4, c5⟩ := C
  refine ⟨fun p p0 p1 => by rw [h p p0 p1]; exact c1 p p0 p1, c2, c3, c4, ?_⟩
  rw [c5]
  have : q_S (fun p => q_b (F p ≠ -1)) 0 48 = q_S (fun p => q_b (G p ≠ -1)) 0 48 := q_S_c (fun i i0 i1 => by rw [h i i0 i1])
  rw [this]
theorem CTk_sm (C : CTk m F k s) (h : ∀ k z, k = 252 ∨ k = 251 ∨ k = 241 ∧ (z = 12 ∨ z = 13) → u k z = s k z) : CTk m F k u := by
  have g : ∀ k z, k = 252 ∨ k = 251 ∨ k = 241 ∧ (z = 12 ∨ z = 13) → q_g u k z = q_g s k z := fun k z hk => by
    show (u k z).toInt = _
    rw [h k z hk]
    rfl
  obtain ⟨c1, c2, c3, c4, c5⟩ := C
  exact ⟨fun p p0 p1 => by rw [g 252 p (by omega)]; exact c1 p p0 p1, by rw [g 251 3 (by omega)]; exact c2, by rw [g 241 12 (by omega)]; exact c3, by rw [g 241 13 (by omega)]; exact c4, by rw [g 251 2 (by omega)]; exact c5⟩
/-- the rows of what is free from now on are laid in -/
theorem cc_slipsA (I : TkI m) (hL : LfI m Lf) (hS : SlI m) (hN : q_g s 241 11 = hc m 0 + 1) (h0 : 0 ≤ hc m 0) (h1 : hc m 0 < 2147483646) (C : CTk m (fr0 m) k s) (k0 : 0 ≤ k) (hl : LfC s Lf) (hs : ∀ p, 0 ≤ p → p < 48 → q_g s 253 p = (SLm m p).toInt) {x2 : Value} : ∃ u, EV (d) 90 2 [.ref 241, .int (q_I (2)), x2] [] (q_h L xs s O c) = EV (d) 90 66 [.ref 241, .int (q_I (48)), x2] [] (q_h L xs (u) O c) ∧ CTk m (frN m Lf) k u ∧ ∀ k z, k ≠ 252 → ¬ (k = 251 ∧ z = 2) → u k z = s k z := by
  have sl : ∀ p, 0 ≤ p → p < 48 → (q_g s 253 p = 1 ↔ p ∈ SLs m) ∧ (q_g s 253 p = 0 ∨ q_g s 253 p = 1) := fun p p0 p1 => by
    rw [hs p p0 p1]
    unfold SLm
    rw [SLl_eq]
    by_cases h : p ∈ SLs m
    · rw [if_pos h]
      exact ⟨⟨fun _ => h, fun _ => rfl⟩, Or.inr rfl⟩
    · rw [if_neg h]
      exact ⟨⟨fun e => absurd e (by decide), fun e => absurd e h⟩, Or.inl rfl⟩
  have rgs : ∀ p, Lf p ∨ p ∈ SLs m → 2 ≤ p ∧ (FRm m p).toInt = -1 := fun p h => h.elim (fun h => ⟨(hL p h).1, (hL p h).2.2.1⟩) (fun h => ⟨(hS p h).1, (hS p h).2.2⟩)
  obtain ⟨u, u1, u2, u3⟩ := q_for (fun j t => EV (d) 90 2 [.ref 241, .int (q_I (j)), x2] [] (q_h L xs (t) O c)) (fun j t => CTk m (fun p => if p < j then frN m Lf p else fr0 m p) k t ∧ ∀ k z, k ≠ 252 → ¬ (k = 251 ∧ z = 2) → t k z = s k z) (lo := 2) (hi := 48) (by omega) (fun j t j0 j1 P => by
      obtain ⟨P1, P2⟩ := P
      have g : ∀ k z, k ≠ 252 → ¬ (k = 251 ∧ z = 2) → q_g t k z = q_g s k z := fun k z a b => by
        show (t k z).toInt = _
        rw [P2 k z a b]
        rfl
      have e48 : q_g t 248 j = q_g s 248 j := g 248 j (by omega) (by omega)
      have e53 : q_g t 253 j = q_g s 253 j := g 253 j (by omega) (by omega)
      have e11 : q_g t 241 11 = hc m 0 + 1 := by rw [g 241 11 (by omega) (by omega), hN]
      obtain ⟨l1, l2⟩ := hl.1 j (by omega) (by omega)
      obtain ⟨s1, s2⟩ := sl j (by omega) (by omega)
      by_cases h : Lf j ∨ j ∈ SLs m
      · have rj := rgs j h
        refine ⟨q_u (q_u t 252 j (hc m 0 + 1)) 251 2 (q_g t 251 2 + 1), ?_, ?_, fun k z a b => by rw [q_u_n (by omega), q_u_n (by omega), P2 k z a b]⟩
        · show EV (d) 90 2 [.ref 241, .int (q_I (j)), x2] [] (q_h L xs (t) O c) = EV (d) 90 2 [.ref 241, .int (q_I (j + 1)), x2] [] (q_h L xs (q_u (q_u t 252 j (hc m 0 + 1)) 251 2 (q_g t 251 2 + 1)) O c)
          rw [R_90_2 (x1 := j)]
          by_cases hl' : q_g s 248 j = 1
          · simp (disch := first | omega | exact q_b_01 _) only [↓reduceIte, q_bk0, q_bk1, q_bk2, q_sg_b, q_b_0, q_b_n0, q_b_1, q_b_n1, q_b_T, q_b_F, q_sg_g, q_sg_sg, q_sg_xs, q_sg_id, q_gu_ne, q_gu_eq, q_g_fne, q_g_cpe, q_w_f, q_v_f, q_u_f, q_fn_f, q_cp_f, q_sg_pg, q_sg_hc, q_lt_t, q_lt_f, q_le_t, q_le_f, q_eq_t, q_eq_f, ne_eq, eq_self, Bool.false_eq_true, Bool.true_eq_false, not_true_eq_false, not_false_eq_true, true_and, and_true, false_and, and_false, true_or, or_true, false_or, or_false, if_true, if_false, Int.reduceAdd, Int.reduceMul, Int.reduceSub, Int.reduceNeg, e48, e53, hl', e11, R_90_0, R_90_8, R_90_17, R_90_21, R_90_30, R_90_34, R_90_47, R_90_60, R_90_66, R_90_71, R_90_73, R_90_79, R_90_96, R_90_100, R_90_106, R_90_108, R_90_122, R_90_132, R_90_142, R_90_148, C_90_97]
          · have hs' : q_g s 253 j = 1 := s1.mpr (h.elim (fun h => absurd (l2.mpr h) hl') id)
            have hl0 : q_g s 248 j = 0 := by omega
            simp (disch := first | omega | exact q_b_01 _) only [↓reduceIte, q_bk0, q_bk1, q_bk2, q_sg_b, q_b_0, q_b_n0, q_b_1, q_b_n1, q_b_T, q_b_F, q_sg_g, q_sg_sg, q_sg_xs, q_sg_id, q_gu_ne, q_gu_eq, q_g_fne, q_g_cpe, q_w_f, q_v_f, q_u_f, q_fn_f, q_cp_f, q_sg_pg, q_sg_hc, q_lt_t, q_lt_f, q_le_t, q_le_f, q_eq_t, q_eq_f, ne_eq, eq_self, Bool.false_eq_true, Bool.true_eq_false, not_true_eq_false, not_false_eq_true, true_and, and_true, false_and, and_false, true_or, or_true, false_or, or_false, if_true, if_false, Int.reduceAdd, Int.reduceMul, Int.reduceSub, Int.reduceNeg, e48, e53, hl0, hs', e11, R_90_0, R_90_8, R_90_17, R_90_21, R_90_30, R_90_34, R_90_47, R_90_60, R_90_66, R_90_71, R_90_73, R_90_79, R_90_96, R_90_100, R_90_106, R_90_108, R_90_122, R_90_132, R_90_142, R_90_148, C_90_97]
        · obtain ⟨c1, c2, c3, c4, c5⟩ := P1
          dsimp only at c1 c5
          have rb := q_S_bd (f := fun p => q_b ((if p < j then frN m Lf p else fr0 m p) ≠ -1)) (lo := 0) (hi := 48) (a := 0) (b := 1) (fun i _ _ => by have := q_b_01 ((if i < j then frN m Lf i else fr0 m i) ≠ -1); omega) (by omega)
          have n0 := nu_ge (m := m) (p := 48) (by omega)
          have n0' := nu_le (m := m) (p := 48) (by omega)
          have nus : ¬ Us m j := fun q => q.1 rj.2
          refine ⟨fun p p0 p1 => ?_, by rw [q_gu_ne (by omega), q_gu_ne (by omega)]; exact c2, by rw [q_gu_ne (by omega), q_gu_ne (by omega)]; exact c3, by rw [q_gu_ne (by omega), q_gu_ne (by omega)]; exact c4, ?_⟩
          · dsimp only
            rw [q_gu_ne (by omega)]
            by_cases e : p = j
            · rw [q_gu_eq (by omega), if_neg (by rw [e]; exact fun q => nus q.1), if_pos (by omega), e, frN_y h]
              exact q_sg_id (by omega) (by omega)
            · rw [q_gu_ne (by omega), c1 p p0 p1]
              by_cases e' : p < j
              · rw [if_pos e', if_pos (show p < j + 1 by omega)]
              · rw [if_neg e', if_neg (show ¬ p < j + 1 by omega)]
          · dsimp only
            rw [q_gu_eq rfl]
            have up := q_S_inc (f := fun p => q_b ((if p < j then frN m Lf p else fr0 m p) ≠ -1)) (g := fun p => q_b ((if p < j + 1 then frN m Lf p else fr0 m p) ≠ -1)) (lo := 0) (hi := 48) (p := j) (by omega) (by omega) (by
              show q_b ((if j < j + 1 then frN m Lf j else fr0 m j) ≠ -1) = q_b ((if j < j then frN m Lf j else fr0 m j) ≠ -1) + 1
              rw [if_pos (by omega), if_neg (by omega), frN_y h, q_bt (by omega), q_bf (fun q => q rj.2)]
              rfl) (fun i i0 i1 hi => by
              show q_b ((if i < j + 1 then frN m Lf i else fr0 m i) ≠ -1) = q_b ((if i < j then frN m Lf i else fr0 m i) ≠ -1)
              by_cases e' : i < j
              · rw [if_pos e', if_pos (show i < j + 1 by omega)]
              · rw [if_neg e', if_neg (show ¬ i < j + 1 by omega)])
            rw [up, c5, q_sg_id (by split <;> omega) (by split <;> omega)]
            omega
      · have hl' : q_g s 248 j = 0 := by
          rcases l1 with q | q
          · exact q
          · exact absurd (Or.inl (l2.mp q)) h
        have hs' : q_g s 253 j = 0 := by
          rcases s2 with q | q
          · exact q
          · exact absurd (Or.inr (s1.mp q)) h
        refine ⟨t, ?_, CTk_c P1 (fun p p0 p1 => ?_), P2⟩
        · show EV (d) 90 2 [.ref 241, .int (q_I (j)), x2] [] (q_h L xs (t) O c) = EV (d) 90 2 [.ref 241, .int (q_I (j + 1)), x2] [] (q_h L xs (t) O c)
          rw [R_90_2 (x1 := j)]
          simp (disch := first | omega | exact q_b_01 _) only [↓reduceIte, q_bk0, q_bk1, q_bk2, q_sg_b, q_b_0, q_b_n0, q_b_1, q_b_n1, q_b_T, q_b_F, q_sg_g, q_sg_sg, q_sg_xs, q_sg_id, q_gu_ne, q_gu_eq, q_g_fne, q_g_cpe, q_w_f, q_v_f, q_u_f, q_fn_f, q_cp_f, q_sg_pg, q_sg_hc, q_lt_t, q_lt_f, q_le_t, q_le_f, q_eq_t, q_eq_f, ne_eq, eq_self, Bool.false_eq_true, Bool.true_eq_false, not_true_eq_false, not_false_eq_true, true_and, and_true, false_and, and_false, true_or, or_true, false_or, or_false, if_true, if_false, Int.reduceAdd, Int.reduceMul, Int.reduceSub, Int.reduceNeg, e48, e53, hl', hs', R_90_0, R_90_8, R_90_17, R_90_21, R_90_30, R_90_34, R_90_47, R_90_60, R_90_66, R_90_71, R_90_73, R_90_79, R_90_96, R_90_100, R_90_106, R_90_108, R_90_122, R_90_132, R_90_142, R_90_148, C_90_97]
        · by_cases e : p = j
          · rw [e, if_pos (by omega), if_neg (by omega), frN_n h]
          · by_cases e' : p < j
            · rw [if_pos e', if_pos (show p < j + 1 by omega)]
            · rw [if_neg e', if_neg (show ¬ p < j + 1 by omega)]) (t := s) ⟨CTk_c C (fun p p0 p1 => by
        split
        · exact frN_n (fun h => by have := (rgs p h).1; omega)
        · rfl), fun _ _ _ _ => rfl⟩
  refine ⟨u, ?_, CTk_c u2 (fun p p0 p1 => by rw [if_pos p1]), u3⟩
  refine u1.trans ?_
  show EV (d) 90 2 [.ref 241, .int (q_I (48)), x2] [] (q_h L xs (u) O c) = _
  rw [R_90_2]
  simp (disch := first | omega | exact q_b_01 _) only [↓reduceIte, q_bk0, q_bk1, q_bk2, q_sg_b, q_b_0, q_b_n0, q_b_1, q_b_n1, q_b_T, q_b_F, q_sg_g, q_sg_sg, q_sg_xs, q_sg_id, q_gu_ne, q_gu_eq, q_g_fne, q_g_cpe, q_w_f, q_v_f, q_u_f, q_fn_f, q_cp_f, q_sg_pg, q_sg_hc, q_lt_t, q_lt_f, q_le_t, q_le_f, q_eq_t, q_eq_f, ne_eq, eq_self, Bool.false_eq_true, Bool.true_eq_false, not_true_eq_false, not_false_eq_true, true_and, and_true, false_and, and_false, true_or, or_true, false_or, or_false, if_true, if_false, Int.reduceAdd, Int.reduceMul, Int.reduceSub, Int.reduceNeg]
/-- ahead of slip i -/
noncomputable def SCl (m F : Int → Int) (kN : Int) (s : Nat → Int → Int32) (i : Int) (u : Nat → Int → Int32) : Prop :=
  CTk m F (kN + i) u ∧ q_g u 241 5 = i ∧ (∀ j, 0 ≤ j → j < i → q_g u 256 j = tp m (kN + j) ∧ q_g u 254 (tp m (kN + j)) = 176 + j) ∧ (∀ q, (∀ j, 0 ≤ j → j < i → q ≠ tp m (kN + j)) → u 254 q = s 254 q) ∧ ∀ k z, ¬ (k = 241 ∧ (z = 5 ∨ z = 12 ∨ z = 13)) → ¬ (k = 251 ∧ z = 2) → k ≠ 252 → k ≠ 254 → k ≠ 256 → u k z = s k z
theorem cc_slipsL (I : TkI m) (hF : FuI m F) (k0 : 0 ≤ kN) (S : ScI m F kN sc) : ∀ (f : Nat) (i : Int) (w : Nat → Int → Int32) (x2 : Value), sc - i = f → 0 ≤ i → SCl m F kN s i w → kN + i ≤ cap m → (kN + sc ≤ cap m → ∃ u, EV (d + 1) 90 73 [.ref 241, .int (q_I (i)), x2] [] (q_h L xs (w) O c) = some (.inl (some (.int (q_I (1)))), q_h L xs (u) O c) ∧ SCl m F kN s sc u) ∧ (cap m < kN + sc → ∃ u, EV (d + 1) 90 73 [.ref 241, .int (q_I (i)), x2] [] (q_h L xs (w) O c) = some (.inl (some (.int (q_I (0)))), q_h L xs (u) O c) ∧ ∀ k z, ¬ (k = 241 ∧ (z = 5 ∨ z = 12 ∨ z = 13)) → ¬ (k = 251 ∧ z = 2) → k ≠ 252 → k ≠ 254 → k ≠ 256 → u k z = s k z)
  | 0, i, w, x2, hf, i0, P, kc => by
    have e : i = sc := by omega
    subst e
    have r := S.2.2.2
    have c5 : q_g w 251 2 = rwl m F (kN + i) := P.1.2.2.2.2
    have rr := q_g_rg w 251 2
    have s8 := S.2.1
    refine ⟨fun _ => ⟨w, ?_, P⟩, fun h => by omega⟩
    rw [R_90_73]
    simp (disch := first | omega | exact q_b_01 _) only [↓reduceIte, q_bk0, q_bk1, q_bk2, q_sg_b, q_b_0, q_b_n0, q_b_1, q_b_n1, q_b_T, q_b_F, q_sg_g, q_sg_sg, q_sg_xs, q_sg_id, q_gu_ne, q_gu_eq, q_g_fne, q_g_cpe, q_w_f, q_v_f, q_u_f, q_fn_f, q_cp_f, q_sg_pg, q_sg_hc, q_lt_t, q_lt_f, q_le_t, q_le_f, q_eq_t, q_eq_f, ne_eq, eq_self, Bool.false_eq_true, Bool.true_eq_false, not_true_eq_false, not_false_eq_true, true_and, and_true, false_and, and_false, true_or, or_true, false_or, or_false, if_true, if_false, Int.reduceAdd, Int.reduceMul, Int.reduceSub, Int.reduceNeg, P.2.1, R_90_0, R_90_2, R_90_8, R_90_17, R_90_21, R_90_30, R_90_34, R_90_47, R_90_60, R_90_66, R_90_71, R_90_79, R_90_96, R_90_100, R_90_106, R_90_108, R_90_122, R_90_132, R_90_142, R_90_148, C_90_97]
  | f + 1, i, w, x2, hf, i0, P, kc => by
    obtain ⟨p1, p2, p3, p4, p5⟩ := id P
    have r := S.2.2.1 i i0 (by omega)
    have s8 := S.2.1
    have c5 : q_g w 251 2 = rwl m F (kN + i) := p1.2.2.2.2
    have rr := q_g_rg w 251 2
    obtain ⟨t1, t2⟩ := cc_take (d := d) (L := L) (xs := xs) (O := O) (c := c) I hF p1 (by omega) kc
    by_cases kk : kN + i < cap m
    · obtain ⟨v, v1, v2, v3⟩ := t1 kk
      have tr := tp_rg I (show 0 ≤ kN + i by omega) kk
      have g5 : q_g v 241 5 = i := by
        show (v 241 5).toInt = i
        rw [v3 241 5 (by omega) (by omega) (by omega)]
        exact p2
      have g5a : q_g (q_u v 254 (tp m (kN + i)) (176 + i)) 241 5 = i := by rw [q_gu_ne (by omega), g5]
      have g5b : q_g (q_u (q_u v 254 (tp m (kN + i)) (176 + i)) 256 i (tp m (kN + i))) 241 5 = i := by rw [q_gu_ne (by omega), g5a]
      have P' : SCl m F kN s (i + 1) (q_u (q_u (q_u v 254 (tp m (kN + i)) (176 + i)) 256 i (tp m (kN + i))) 241 5 (i + 1)) := by
        refine ⟨?_, by rw [q_gu_eq rfl, q_sg_id (by omega) (by omega)], fun j j0 j1 => ?_, fun q hq => ?_, fun k z h1 h2 h3 h4 h5 => by rw [q_u_n (by omega), q_u_n (by omega), q_u_n (by omega), v3 k z (by omega) h2 h3, p5 k z h1 h2 h3 h4 h5]⟩
        · rw [← Int.add_assoc]
          exact CTk_sm v2 (fun k z hk => by rw [q_u_n (by omega), q_u_n (by omega), q_u_n (by omega)])
        · by_cases e : j = i
          · subst e
            exact ⟨by rw [q_gu_ne (by omega), q_gu_eq rfl, q_sg_id (by omega) (by omega)], by rw [q_gu_ne (by omega), q_gu_ne (by omega), q_gu_eq rfl, q_sg_id (by omega) (by omega)]⟩
          · have ne : tp m (kN + j) ≠ tp m (kN + i) := fun q => by
              have := tp_inj' I (by omega) (by omega) (by omega) kk q
              omega
            obtain ⟨a1, a2⟩ := p3 j j0 (by omega)
            refine ⟨?_, ?_⟩
            · rw [q_gu_ne (by omega), q_gu_ne (by omega), q_gu_ne (by omega)]
              show (v 256 j).toInt = _
              rw [v3 256 j (by omega) (by omega) (by omega)]
              exact a1
            · rw [q_gu_ne (by omega), q_gu_ne (by omega), q_gu_ne (by omega)]
              show (v 254 (tp m (kN + j))).toInt = _
              rw [v3 254 _ (by omega) (by omega) (by omega)]
              exact a2
        · have := hq i i0 (by omega)
          rw [q_u_n (by omega), q_u_n (by omega), q_u_n (by omega), v3 254 q (by omega) (by omega) (by omega), p4 q (fun j j0 j1 => hq j j0 (by omega))]
      obtain ⟨j1, j2⟩ := cc_slipsL I hF k0 S f (i + 1) _ (.int (q_I (tp m (kN + i)))) (by omega) (by omega) P' (by omega)
      refine ⟨fun h => ?_, fun h => ?_⟩
      · obtain ⟨u, u1, u2⟩ := j1 h
        refine ⟨u, ?_, u2⟩
        rw [R_90_73]
        simp (disch := first | omega | exact q_b_01 _) only [↓reduceIte, q_bk0, q_bk1, q_bk2, q_sg_b, q_b_0, q_b_n0, q_b_1, q_b_n1, q_b_T, q_b_F, q_sg_g, q_sg_sg, q_sg_xs, q_sg_id, q_gu_ne, q_gu_eq, q_g_fne, q_g_cpe, q_w_f, q_v_f, q_u_f, q_fn_f, q_cp_f, q_sg_pg, q_sg_hc, q_lt_t, q_lt_f, q_le_t, q_le_f, q_eq_t, q_eq_f, ne_eq, eq_self, Bool.false_eq_true, Bool.true_eq_false, not_true_eq_false, not_false_eq_true, true_and, and_true, false_and, and_false, true_or, or_true, false_or, or_false, if_true, if_false, Int.reduceAdd, Int.reduceMul, Int.reduceSub, Int.reduceNeg, p2, v1, g5, g5a, g5b, R_90_0, R_90_2, R_90_8, R_90_17, R_90_21, R_90_30, R_90_34, R_90_47, R_90_60, R_90_66, R_90_71, R_90_79, R_90_96, R_90_100, R_90_106, R_90_108, R_90_122, R_90_132, R_90_142, R_90_148, C_90_97]
        exact u1
      · obtain ⟨u, u1, u2⟩ := j2 h
        refine ⟨u, ?_, u2⟩
        rw [R_90_73]
        simp (disch := first | omega | exact q_b_01 _) only [↓reduceIte, q_bk0, q_bk1, q_bk2, q_sg_b, q_b_0, q_b_n0, q_b_1, q_b_n1, q_b_T, q_b_F, q_sg_g, q_sg_sg, q_sg_xs, q_sg_id, q_gu_ne, q_gu_eq, q_g_fne, q_g_cpe, q_w_f, q_v_f, q_u_f, q_fn_f, q_cp_f, q_sg_pg, q_sg_hc, q_lt_t, q_lt_f, q_le_t, q_le_f, q_eq_t, q_eq_f, ne_eq, eq_self, Bool.false_eq_true, Bool.true_eq_false, not_true_eq_false, not_false_eq_true, true_and, and_true, false_and, and_false, true_or, or_true, false_or, or_false, if_true, if_false, Int.reduceAdd, Int.reduceMul, Int.reduceSub, Int.reduceNeg, p2, v1, g5, g5a, g5b, R_90_0, R_90_2, R_90_8, R_90_17, R_90_21, R_90_30, R_90_34, R_90_47, R_90_60, R_90_66, R_90_71, R_90_79, R_90_96, R_90_100, R_90_106, R_90_108, R_90_122, R_90_132, R_90_142, R_90_148, C_90_97]
        exact u1
    · obtain ⟨v, v1, v2⟩ := t2 (by omega)
      refine ⟨fun h => by omega, fun h => ⟨v, ?_, fun k z h1 h2 h3 h4 h5 => by rw [v2 k z (by omega) h2 h3, p5 k z h1 h2 h3 h4 h5]⟩⟩
      rw [R_90_73]
      simp (disch := first | omega | exact q_b_01 _) only [↓reduceIte, q_bk0, q_bk1, q_bk2, q_sg_b, q_b_0, q_b_n0, q_b_1, q_b_n1, q_b_T, q_b_F, q_sg_g, q_sg_sg, q_sg_xs, q_sg_id, q_gu_ne, q_gu_eq, q_g_fne, q_g_cpe, q_w_f, q_v_f, q_u_f, q_fn_f, q_cp_f, q_sg_pg, q_sg_hc, q_lt_t, q_lt_f, q_le_t, q_le_f, q_eq_t, q_eq_f, ne_eq, eq_self, Bool.false_eq_true, Bool.true_eq_false, not_true_eq_false, not_false_eq_true, true_and, and_true, false_and, and_false, true_or, or_true, false_or, or_false, if_true, if_false, Int.reduceAdd, Int.reduceMul, Int.reduceSub, Int.reduceNeg, p2, v1, R_90_0, R_90_2, R_90_8, R_90_17, R_90_21, R_90_30, R_90_34, R_90_47, R_90_60, R_90_66, R_90_71, R_90_79, R_90_96, R_90_100, R_90_106, R_90_108, R_90_122, R_90_132, R_90_142, R_90_148, C_90_97]
theorem cc_placeSlips (I : TkI m) (hL : LfI m Lf) (hS : SlI m) (hN : q_g s 241 11 = hc m 0 + 1) (h0 : 0 ≤ hc m 0) (h1 : hc m 0 < 2147483646) (C : CTk m (fr0 m) kN s) (k0 : 0 ≤ kN) (kc : kN ≤ cap m) (hl : LfC s Lf) (hs : ∀ p, 0 ≤ p → p < 48 → q_g s 253 p = (SLm m p).toInt) (S : ScI m (frN m Lf) kN sc) :
    (kN + sc ≤ cap m → ∃ u, EV (d + 1) 90 0 [.ref 241, .null, .null] [] (q_h L xs s O c) = some (.inl (some (.int (q_I (1)))), q_h L xs (u) O c) ∧ SCl m (frN m Lf) kN s sc u) ∧ (cap m < kN + sc → ∃ u, EV (d + 1) 90 0 [.ref 241, .null, .null] [] (q_h L xs s O c) = some (.inl (some (.int (q_I (0)))), q_h L xs (u) O c) ∧ ∀ k z, ¬ (k = 241 ∧ (z = 5 ∨ z = 12 ∨ z = 13)) → ¬ (k = 251 ∧ z = 2) → k ≠ 252 → k ≠ 254 → k ≠ 256 → u k z = s k z) := by
  obtain ⟨u, u1, u2, u3⟩ := cc_slipsA (d := d + 1) (L := L) (xs := xs) (O := O) (c := c) (x2 := .null) I hL hS hN h0 h1 C k0 hl hs
  have P0 : SCl m (frN m Lf) kN s 0 (q_u u 241 5 0) := by
    refine ⟨?_, by rw [q_gu_eq rfl]; rfl, fun j j0 j1 => by omega, fun q _ => by rw [q_u_n (by omega), u3 254 q (by omega) (by omega)], fun k z a1 a2 a3 a4 a5 => by rw [q_u_n (by omega), u3 k z (by omega) (by omega)]⟩
    rw [Int.add_zero]
    exact CTk_sm u2 (fun k z hk => by rw [q_u_n (by omega)])
  obtain ⟨j1, j2⟩ := cc_slipsL (d := d) (L := L) (xs := xs) (O := O) (c := c) (s := s) I (FuI_N hL hS) k0 S sc.toNat 0 (q_u u 241 5 0) .null (by have := S.1; omega) (by omega) P0 (by omega)
  have pre : EV (d + 1) 90 0 [.ref 241, .null, .null] [] (q_h L xs s O c) = EV (d + 1) 90 73 [.ref 241, .int (q_I (0)), .null] [] (q_h L xs (q_u u 241 5 0) O c) := by
    rw [R_90_0, u1, R_90_66, R_90_71]
  exact ⟨fun h => by obtain ⟨w, w1, w2⟩ := j1 h; exact ⟨w, pre.trans w1, w2⟩, fun h => by obtain ⟨w, w1, w2⟩ := j2 h; exact ⟨w, pre.trans w1, w2⟩⟩
end CLS
