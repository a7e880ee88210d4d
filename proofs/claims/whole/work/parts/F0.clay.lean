/-! ROWS AND WRITES by rising pages; the class -/
noncomputable def cnP (P : Int → Prop) [DecidablePred P] (p : Int) : Int := q_S (fun i => q_b (P i)) 0 p
section CTS
variable {P : Int → Prop} {p q k : Int}
theorem cnP_0 [DecidablePred P] : cnP P 0 = 0 := q_S_0 _ _
theorem cnP_1 [DecidablePred P] (h : 0 ≤ p) : cnP P (p + 1) = cnP P p + q_b (P p) := q_S_1 _ h
theorem cnP_up [DecidablePred P] (h : 0 ≤ p) (hq : p ≤ q) : cnP P p ≤ cnP P q := by
  have key : ∀ n : Nat, cnP P p ≤ cnP P (p + n) := fun n => by
    induction n with
    | zero => simp
    | succ n ih =>
      rw [show p + ((n + 1 : Nat) : Int) = p + (n : Int) + 1 by omega, cnP_1 (by omega)]
      have := q_b_01 (P (p + (n : Int)))
      omega
  have := key (q - p).toNat
  rw [show p + (((q - p).toNat : Nat) : Int) = q by omega] at this
  exact this
theorem cnP_rg [DecidablePred P] (h : 0 ≤ p) : 0 ≤ cnP P p ∧ cnP P p ≤ p := by
  have := q_S_bd (f := fun i => q_b (P i)) (lo := 0) (hi := p) (a := 0) (b := 1) (fun i _ _ => by have := q_b_01 (P i); omega) h
  unfold cnP
  omega
theorem cnP_lt [DecidablePred P] (h : 0 ≤ p) (hu : P p) (hq : p < q) : cnP P p < cnP P q := by
  have := cnP_up (P := P) (p := p + 1) (q := q) (by omega) (by omega)
  rw [cnP_1 h, q_bt hu] at this
  omega
theorem cnP_inj [DecidablePred P] (h : 0 ≤ p) (h' : 0 ≤ q) (hu : P p) (hv : P q) (e : cnP P p = cnP P q) : p = q := by
  rcases Int.lt_trichotomy p q with c | c | c
  · have := cnP_lt h hu c
    omega
  · exact c
  · have := cnP_lt h' hv c
    omega
theorem cnP_ex [DecidablePred P] : ∀ (n : Nat), 0 ≤ k → k < cnP P n → ∃ p : Int, 0 ≤ p ∧ p < (n : Int) ∧ P p ∧ cnP P p = k
  | 0, h0, h1 => by
    have : cnP P ((0 : Nat) : Int) = 0 := cnP_0
    omega
  | n + 1, h0, h1 => by
    rw [show ((n + 1 : Nat) : Int) = (n : Int) + 1 by omega, cnP_1 (by omega)] at h1
    by_cases c : k < cnP P n
    · obtain ⟨p, a1, a2, a3, a4⟩ := cnP_ex n h0 c
      exact ⟨p, a1, by omega, a3, a4⟩
    · by_cases hu : P n
      · rw [q_bt hu] at h1
        exact ⟨n, by omega, by omega, hu, by omega⟩
      · rw [q_bf hu] at h1
        omega
theorem cnP_ex48 [DecidablePred P] (h0 : 0 ≤ k) (h1 : k < cnP P 48) : ∃ p, 0 ≤ p ∧ p < 48 ∧ P p ∧ cnP P p = k := cnP_ex 48 h0 h1
theorem cnP_same [DecidablePred P] (h : 0 ≤ p) (hq : p ≤ q) (hn : ∀ i, p ≤ i → i < q → ¬ P i) : cnP P q = cnP P p := by
  have key : ∀ n : Nat, p + n ≤ q → cnP P (p + n) = cnP P p := fun n => by
    induction n with
    | zero => intro _; simp
    | succ n ih =>
      intro hn'
      rw [show p + ((n + 1 : Nat) : Int) = p + (n : Int) + 1 by omega, cnP_1 (by omega), ih (by omega), q_bf (hn _ (by omega) (by omega))]
      omega
  have := key (q - p).toNat (by omega)
  rw [show p + (((q - p).toNat : Nat) : Int) = q by omega] at this
  exact this
end CTS
/-- a page whose row the list will have -/
abbrev Rw (m : Int → Int) (Lf : Int → Prop) (K p : Int) : Prop := frN m Lf p ≠ -1 ∧ ¬ TK m K p
section CLO
variable {d L : Nat} {xs : Nat → Int32} {s u : Nat → Int → Int32} {O : Nat → Int64} {c : Bool × Nat × Nat} {m : Int → Int} {Lf : Int → Prop} {K p hd : Int}
theorem frN_rg (hL : LfI m Lf) (hS : SlI m) (Hl : LsOk m) (h0 : 0 ≤ hc m 0) (h : frN m Lf p ≠ -1) : 2 ≤ p ∧ p < hc m 3 ∧ 0 ≤ frN m Lf p ∧ frN m Lf p ≤ hc m 0 + 1 := by
  by_cases c : Lf p ∨ p ∈ SLs m
  · have hr : 2 ≤ p ∧ p < hc m 3 := c.elim (fun h => ⟨(hL p h).1, (hL p h).2.1⟩) (fun h => ⟨(hS p h).1, (hS p h).2.1⟩)
    rw [frN_y c] at h ⊢
    omega
  · rw [frN_n c] at h ⊢
    rcases fr_cases Hl p with ⟨q, -⟩ | ⟨n, q1, q2, q3, q4, q5, q6, q7, q8⟩
    · exact absurd q h
    · unfold fr0
      omega
theorem hgh_rg (I : TkI m) (k0 : 0 ≤ K) (kc : K ≤ cap m) : 2 ≤ hgh m K ∧ hgh m K ≤ 48 ∧ hc m 3 ≤ hgh m K := by
  have i2 := I.2
  have n0 := nu_ge (m := m) (p := 48) (by omega)
  unfold cap at kc
  unfold hgh
  split <;> omega
theorem TK_ct (I : TkI m) (k0 : 0 ≤ K) (kc : K ≤ cap m) : cnP (TK m K) 48 = K ∧ cnP (TK m K) 2 = 0 ∧ cnP (TK m K) (hgh m K) = K ∧ K ≤ 48 := by
  have hr := hgh_rg I k0 kc
  have e48 : cnP (TK m K) 48 = K := TK_cnt I kc k0
  have r48 := cnP_rg (P := TK m K) (p := 48) (by omega)
  refine ⟨e48, ?_, ?_, by omega⟩
  · rw [cnP_same (p := 0) (by omega) (by omega) (fun i i0 i1 h => by have := TK_rg I kc k0 h; omega), cnP_0]
  · rw [← cnP_same (p := hgh m K) (q := 48) (by omega) (by omega) (fun i i0 i1 h => by have := TK_rg I kc k0 h; omega)]
    exact e48
theorem Rw_ct (I : TkI m) (hL : LfI m Lf) (hS : SlI m) (Hl : LsOk m) (h0 : 0 ≤ hc m 0) (k0 : 0 ≤ K) (kc : K ≤ cap m) : cnP (Rw m Lf K) 2 = 0 ∧ cnP (Rw m Lf K) (hgh m K) = cnP (Rw m Lf K) 48 := by
  have hr := hgh_rg I k0 kc
  have rg : ∀ i, Rw m Lf K i → 2 ≤ i ∧ i < hc m 3 := fun i h => by
    have := frN_rg hL hS Hl h0 h.1
    omega
  refine ⟨?_, ?_⟩
  · rw [cnP_same (p := 0) (by omega) (by omega) (fun i i0 i1 h => by have := rg i h; omega), cnP_0]
  · exact (cnP_same (by omega) (by omega) (fun i i0 i1 h => by have := rg i h; omega)).symm
/-- what lies in the rows of the class -/
noncomputable def LoC (m : Int → Int) (Lf : Int → Prop) (K hd : Int) (u : Nat → Int → Int32) : Prop :=
  q_g u 241 10 = K + 1 ∧ (∀ p, 0 ≤ p → p < 48 → TK m K p → q_g u 259 (cnP (TK m K) p) = p) ∧ q_g u 259 K = hd ∧ q_g u 241 8 = cnP (Rw m Lf K) 48 ∧ ∀ p, 0 ≤ p → p < 48 → Rw m Lf K p → q_g u 257 (cnP (Rw m Lf K) p) = p ∧ q_g u 258 (cnP (Rw m Lf K) p) = frN m Lf p
theorem cc_layOut (I : TkI m) (hL : LfI m Lf) (hS : SlI m) (Hl : LsOk m) (h0 : 0 ≤ hc m 0) (C : CTk m (frN m Lf) K s) (k0 : 0 ≤ K) (kc : K ≤ cap m) (hw : q_g s 241 10 = 0) (hO : ∀ p, 0 ≤ p → p < 48 → (q_g s 254 p ≠ -1 ↔ TK m K p)) (hd0 : 0 ≤ hd) (hd1 : hd ≤ 1) : ∃ u, EV (d) 91 0 [.ref 241, .int (q_I (hd)), .null] [] (q_h L xs s O c) = some (.inl none, q_h L xs (u) O c) ∧ LoC m Lf K hd u ∧ ∀ k z, ¬ (k = 241 ∧ (z = 8 ∨ z = 10)) → k ≠ 257 → k ≠ 258 → k ≠ 259 → u k z = s k z := by
  have hr := hgh_rg I k0 kc
  obtain ⟨a1, a2, a3, a4⟩ := TK_ct I k0 kc
  obtain ⟨b1, b2⟩ := Rw_ct I hL hS Hl h0 k0 kc
  obtain ⟨u, u1, u2, u3, u4, u5, u6⟩ := q_for (fun j t => EV (d) 91 7 [.ref 241, .int (q_I (hd)), .int (q_I (j))] [] (q_h L xs (t) O c)) (fun j t => q_g t 241 10 = cnP (TK m K) j ∧ (∀ p, 0 ≤ p → p < j → TK m K p → q_g t 259 (cnP (TK m K) p) = p) ∧ q_g t 241 8 = cnP (Rw m Lf K) j ∧ (∀ p, 0 ≤ p → p < j → Rw m Lf K p → q_g t 257 (cnP (Rw m Lf K) p) = p ∧ q_g t 258 (cnP (Rw m Lf K) p) = frN m Lf p) ∧ ∀ k z, ¬ (k = 241 ∧ (z = 8 ∨ z = 10)) → k ≠ 257 → k ≠ 258 → k ≠ 259 → t k z = s k z) (lo := 2) (hi := hgh m K) hr.1 (fun j t j0 j1 P => by
      obtain ⟨P1, P2, P3, P4, P5⟩ := P
      have g : ∀ k z, ¬ (k = 241 ∧ (z = 8 ∨ z = 10)) → k ≠ 257 → k ≠ 258 → k ≠ 259 → q_g t k z = q_g s k z := fun k z a b c e => by
        show (t k z).toInt = _
        rw [P5 k z a b c e]
        rfl
      have e12 : q_g t 241 12 = hgh m K := by rw [g 241 12 (by omega) (by omega) (by omega) (by omega)]; exact C.2.2.1
      have e54 : q_g t 254 j = q_g s 254 j := g 254 j (by omega) (by omega) (by omega) (by omega)
      have e52 : q_g t 252 j = q_g s 252 j := g 252 j (by omega) (by omega) (by omega) (by omega)
      have wr := cnP_rg (P := TK m K) (p := j) (by omega)
      have rr := cnP_rg (P := Rw m Lf K) (p := j) (by omega)
      by_cases tk : TK m K j
      · have ow := (hO j (by omega) (by omega)).mpr tk
        have nr : ¬ Rw m Lf K j := fun q => q.2 tk
        have g10 : q_g (q_u t 259 (cnP (TK m K) j) j) 241 10 = cnP (TK m K) j := by rw [q_gu_ne (by omega), P1]
        refine ⟨q_u (q_u t 259 (cnP (TK m K) j) j) 241 10 (cnP (TK m K) j + 1), ?_, ?_, fun p p0 p1 hp => ?_, ?_, fun p p0 p1 hp => ?_, fun k z a b c e => by rw [q_u_n (by omega), q_u_n (by omega), P5 k z a b c e]⟩
        · show EV (d) 91 7 [.ref 241, .int (q_I (hd)), .int (q_I (j))] [] (q_h L xs (t) O c) = EV (d) 91 7 [.ref 241, .int (q_I (hd)), .int (q_I (j + 1))] [] (q_h L xs (q_u (q_u t 259 (cnP (TK m K) j) j) 241 10 (cnP (TK m K) j + 1)) O c)
          rw [R_91_7 (x2 := j)]
          simp (disch := first | omega | exact q_b_01 _) only [↓reduceIte, q_bk0, q_bk1, q_bk2, q_sg_b, q_b_0, q_b_n0, q_b_1, q_b_n1, q_b_T, q_b_F, q_sg_g, q_sg_sg, q_sg_xs, q_sg_id, q_gu_ne, q_gu_eq, q_g_fne, q_g_cpe, q_w_f, q_v_f, q_u_f, q_fn_f, q_cp_f, q_sg_pg, q_sg_hc, q_lt_t, q_lt_f, q_le_t, q_le_f, q_eq_t, q_eq_f, ne_eq, eq_self, Bool.false_eq_true, Bool.true_eq_false, not_true_eq_false, not_false_eq_true, true_and, and_true, false_and, and_false, true_or, or_true, false_or, or_false, if_true, if_false, Int.reduceAdd, Int.reduceMul, Int.reduceSub, Int.reduceNeg, e12, e54, ow, P1, g10, R_91_0, R_91_5, R_91_15, R_91_21, R_91_27, R_91_31, R_91_41, R_91_51, R_91_54, R_91_63, R_91_67, R_91_77, R_91_94, R_91_95, R_91_105, R_91_121, R_91_131]
        · rw [q_gu_eq rfl, q_sg_id (by omega) (by omega), cnP_1 (by omega), q_bt tk]
        · rw [q_gu_ne (by omega)]
          by_cases e : p = j
          · rw [e, q_gu_eq rfl, q_sg_id (by omega) (by omega)]
          · have := cnP_lt p0 hp (show p < j by omega)
            rw [q_gu_ne (by omega)]
            exact P2 p p0 (by omega) hp
        · rw [q_gu_ne (by omega), q_gu_ne (by omega), P3, cnP_1 (by omega), q_bf nr]
          omega
        · have e : p ≠ j := fun e => nr (e ▸ hp)
          rw [q_gu_ne (by omega), q_gu_ne (by omega), q_gu_ne (by omega), q_gu_ne (by omega)]
          exact P4 p p0 (by omega) hp
      · have ow : q_g s 254 j = -1 := Classical.byContradiction fun q => tk ((hO j (by omega) (by omega)).mp q)
        have fj : q_g s 252 j = frN m Lf j := by
          rw [C.1 j (by omega) (by omega), if_neg (fun q => tk (Or.inl q))]
        by_cases rj : Rw m Lf K j
        · have fn := rj.1
          have g8 : q_g (q_u (q_u t 257 (cnP (Rw m Lf K) j) j) 258 (cnP (Rw m Lf K) j) (frN m Lf j)) 241 8 = cnP (Rw m Lf K) j := by rw [q_gu_ne (by omega), q_gu_ne (by omega), P3]
          have fr := frN_rg hL hS Hl h0 fn
          have frr := q_g_rg s 252 j
          rw [fj] at frr
          refine ⟨q_u (q_u (q_u t 257 (cnP (Rw m Lf K) j) j) 258 (cnP (Rw m Lf K) j) (frN m Lf j)) 241 8 (cnP (Rw m Lf K) j + 1), ?_, ?_, fun p p0 p1 hp => ?_, ?_, fun p p0 p1 hp => ?_, fun k z a b c e => by rw [q_u_n (by omega), q_u_n (by omega), q_u_n (by omega), P5 k z a b c e]⟩
          · show EV (d) 91 7 [.ref 241, .int (q_I (hd)), .int (q_I (j))] [] (q_h L xs (t) O c) = EV (d) 91 7 [.ref 241, .int (q_I (hd)), .int (q_I (j + 1))] [] (q_h L xs (q_u (q_u (q_u t 257 (cnP (Rw m Lf K) j) j) 258 (cnP (Rw m Lf K) j) (frN m Lf j)) 241 8 (cnP (Rw m Lf K) j + 1)) O c)
            rw [R_91_7 (x2 := j)]
            simp (disch := first | omega | exact q_b_01 _) only [↓reduceIte, q_bk0, q_bk1, q_bk2, q_sg_b, q_b_0, q_b_n0, q_b_1, q_b_n1, q_b_T, q_b_F, q_sg_g, q_sg_sg, q_sg_xs, q_sg_id, q_gu_ne, q_gu_eq, q_g_fne, q_g_cpe, q_w_f, q_v_f, q_u_f, q_fn_f, q_cp_f, q_sg_pg, q_sg_hc, q_lt_t, q_lt_f, q_le_t, q_le_f, q_eq_t, q_eq_f, ne_eq, eq_self, Bool.false_eq_true, Bool.true_eq_false, not_true_eq_false, not_false_eq_true, true_and, and_true, false_and, and_false, true_or, or_true, false_or, or_false, if_true, if_false, Int.reduceAdd, Int.reduceMul, Int.reduceSub, Int.reduceNeg, e12, e54, ow, e52, fj, fn, P3, g8, R_91_0, R_91_5, R_91_15, R_91_21, R_91_27, R_91_31, R_91_41, R_91_51, R_91_54, R_91_63, R_91_67, R_91_77, R_91_94, R_91_95, R_91_105, R_91_121, R_91_131]
          · rw [q_gu_ne (by omega), q_gu_ne (by omega), q_gu_ne (by omega), P1, cnP_1 (by omega), q_bf tk]
            omega
          · have e : p ≠ j := fun e => tk (e ▸ hp)
            rw [q_gu_ne (by omega), q_gu_ne (by omega), q_gu_ne (by omega)]
            exact P2 p p0 (by omega) hp
          · rw [q_gu_eq rfl, q_sg_id (by omega) (by omega), cnP_1 (by omega), q_bt rj]
          · by_cases e : p = j
            · rw [e]
              refine ⟨?_, ?_⟩
              · rw [q_gu_ne (by omega), q_gu_ne (by omega), q_gu_eq rfl, q_sg_id (by omega) (by omega)]
              · rw [q_gu_ne (by omega), q_gu_eq rfl, q_sg_id frr.1 frr.2]
            · have := cnP_lt p0 hp (show p < j by omega)
              obtain ⟨y1, y2⟩ := P4 p p0 (by omega) hp
              refine ⟨?_, ?_⟩
              · rw [q_gu_ne (by omega), q_gu_ne (by omega), q_gu_ne (by omega)]
                exact y1
              · rw [q_gu_ne (by omega), q_gu_ne (by omega), q_gu_ne (by omega)]
                exact y2
        · have fn : frN m Lf j = -1 := Classical.byContradiction fun q => rj ⟨q, tk⟩
          refine ⟨t, ?_, by rw [P1, cnP_1 (by omega), q_bf tk]; omega, fun p p0 p1 hp => ?_, by rw [P3, cnP_1 (by omega), q_bf rj]; omega, fun p p0 p1 hp => ?_, P5⟩
          · show EV (d) 91 7 [.ref 241, .int (q_I (hd)), .int (q_I (j))] [] (q_h L xs (t) O c) = EV (d) 91 7 [.ref 241, .int (q_I (hd)), .int (q_I (j + 1))] [] (q_h L xs (t) O c)
            rw [R_91_7 (x2 := j)]
            simp (disch := first | omega | exact q_b_01 _) only [↓reduceIte, q_bk0, q_bk1, q_bk2, q_sg_b, q_b_0, q_b_n0, q_b_1, q_b_n1, q_b_T, q_b_F, q_sg_g, q_sg_sg, q_sg_xs, q_sg_id, q_gu_ne, q_gu_eq, q_g_fne, q_g_cpe, q_w_f, q_v_f, q_u_f, q_fn_f, q_cp_f, q_sg_pg, q_sg_hc, q_lt_t, q_lt_f, q_le_t, q_le_f, q_eq_t, q_eq_f, ne_eq, eq_self, Bool.false_eq_true, Bool.true_eq_false, not_true_eq_false, not_false_eq_true, true_and, and_true, false_and, and_false, true_or, or_true, false_or, or_false, if_true, if_false, Int.reduceAdd, Int.reduceMul, Int.reduceSub, Int.reduceNeg, e12, e54, ow, e52, fj, fn, R_91_0, R_91_5, R_91_15, R_91_21, R_91_27, R_91_31, R_91_41, R_91_51, R_91_54, R_91_63, R_91_67, R_91_77, R_91_94, R_91_95, R_91_105, R_91_121, R_91_131]
          · have e : p ≠ j := fun e => tk (e ▸ hp)
            exact P2 p p0 (by omega) hp
          · have e : p ≠ j := fun e => rj (e ▸ hp)
            exact P4 p p0 (by omega) hp) (t := q_u s 241 8 0) ⟨by rw [q_gu_ne (by omega), hw, a2], fun p p0 p1 hp => absurd (TK_rg I kc k0 hp).1 (by omega), by rw [q_gu_eq rfl, b1]; rfl, fun p p0 p1 hp => absurd (frN_rg hL hS Hl h0 hp.1).1 (by omega), fun k z a b c e => q_u_n (by omega)⟩
  have g12 : q_g u 241 12 = hgh m K := by
    show (u 241 12).toInt = _
    rw [u6 241 12 (by omega) (by omega) (by omega) (by omega)]
    exact C.2.2.1
  rw [a3] at u2
  rw [b2] at u4
  refine ⟨q_u (q_u u 259 K hd) 241 10 (K + 1), ?_, ⟨by rw [q_gu_eq rfl, q_sg_id (by omega) (by omega)], fun p p0 p1 hp => ?_, by rw [q_gu_ne (by omega), q_gu_eq rfl, q_sg_id (by omega) (by omega)], by rw [q_gu_ne (by omega), q_gu_ne (by omega)]; exact u4, fun p p0 p1 hp => ?_⟩, fun k z a b c e => by rw [q_u_n (by omega), q_u_n (by omega), u6 k z a b c e]⟩
  · rw [R_91_0, R_91_5]
    refine u1.trans ?_
    show EV (d) 91 7 [.ref 241, .int (q_I (hd)), .int (q_I (hgh m K))] [] (q_h L xs (u) O c) = _
    rw [R_91_7]
    have g10 : q_g (q_u u 259 K hd) 241 10 = K := by rw [q_gu_ne (by omega), u2]
    simp (disch := first | omega | exact q_b_01 _) only [↓reduceIte, q_bk0, q_bk1, q_bk2, q_sg_b, q_b_0, q_b_n0, q_b_1, q_b_n1, q_b_T, q_b_F, q_sg_g, q_sg_sg, q_sg_xs, q_sg_id, q_gu_ne, q_gu_eq, q_g_fne, q_g_cpe, q_w_f, q_v_f, q_u_f, q_fn_f, q_cp_f, q_sg_pg, q_sg_hc, q_lt_t, q_lt_f, q_le_t, q_le_f, q_eq_t, q_eq_f, ne_eq, eq_self, Bool.false_eq_true, Bool.true_eq_false, not_true_eq_false, not_false_eq_true, true_and, and_true, false_and, and_false, true_or, or_true, false_or, or_false, if_true, if_false, Int.reduceAdd, Int.reduceMul, Int.reduceSub, Int.reduceNeg, g12, u2, g10, R_91_0, R_91_5, R_91_15, R_91_21, R_91_27, R_91_31, R_91_41, R_91_51, R_91_54, R_91_63, R_91_67, R_91_77, R_91_94, R_91_95, R_91_105, R_91_111, R_91_121, R_91_131]
  · have r := TK_rg I kc k0 hp
    have := cnP_lt p0 hp (show p < 48 by omega)
    rw [q_gu_ne (by omega), q_gu_ne (by omega)]
    exact u3 p p0 r.2.2 hp
  · have r := frN_rg hL hS Hl h0 hp.1
    rw [q_gu_ne (by omega), q_gu_ne (by omega), q_gu_ne (by omega), q_gu_ne (by omega)]
    exact u5 p p0 (by omega) hp
end CLO
