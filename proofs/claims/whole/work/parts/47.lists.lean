/-! THE CLASS: the list of free pages, read -/
def isF (f : Nat) : Prop := f = 251 ∨ f = 261
/-- the list at f: which are freed, which are slips, how many rows, the limit -/
def fm (s : Nat → Int → Int32) (f : Nat) (F S : Int → Int32) (rw lm : Int) : Nat → Int → Int32 := q_u (q_u (q_v (q_v s (f + 1) 0 48 F) (f + 2) 0 48 S) f 2 rw) f 3 lm
section FM
variable {d L : Nat} {xs : Nat → Int32} {s : Nat → Int → Int32} {O : Nat → Int64} {c : Bool × Nat × Nat} {f : Nat}
theorem fl_A1 (hf : isF f) : ly_A (f + 1) 48 .int := by
  rcases hf with e | e <;> subst e <;> exact ⟨rfl, by decide, by decide, by decide, by decide⟩
theorem fl_A2 (hf : isF f) : ly_A (f + 2) 48 .int := by
  rcases hf with e | e <;> subst e <;> exact ⟨rfl, by decide, by decide, by decide, by decide⟩
theorem fl_B (hf : isF f) : ly_B f 2 [some (f + 1), some (f + 2), none, none] := by
  rcases hf with e | e <;> subst e <;> exact ⟨rfl, by decide, by decide, by decide, by decide⟩
theorem fl_g0 (hf : isF f) : ex_get (q_h L xs s O c) f 2 0 = some (.ref (f + 1)) := q_gr (fl_B hf) rfl
theorem fl_g1 (hf : isF f) : ex_get (q_h L xs s O c) f 2 1 = some (.ref (f + 2)) := q_gr (fl_B hf) rfl
theorem fl_g2 (hf : isF f) : ex_get (q_h L xs s O c) f 2 2 = some (.int (q_I (q_g s f 2))) := q_gi (fl_B hf) rfl
theorem fl_g3 (hf : isF f) : ex_get (q_h L xs s O c) f 2 3 = some (.int (q_I (q_g s f 3))) := q_gi (fl_B hf) rfl
theorem fl_p2 (hf : isF f) {v : Int} : ex_put (q_h L xs s O c) f 2 2 0 (.int (q_I v)) = some (q_h L xs (q_u s f 2 v) O c) := q_pi (fl_B hf) rfl
theorem fl_p3 (hf : isF f) {v : Int} : ex_put (q_h L xs s O c) f 2 3 0 (.int (q_I v)) = some (q_h L xs (q_u s f 3 v) O c) := q_pi (fl_B hf) rfl
theorem fl_rc (hf : isF f) (r : List Value) : ex_rc (q_h L xs s O c) 4 (.ref f :: r) = true := q_rcv (fl_B hf) r
theorem fl_l1 (hf : isF f) {z : Int} (h0 : 0 ≤ z) (h1 : z < 48) : ex_ild (q_h L xs s O c) (f + 1) (q_I z) = some (q_I (q_g s (f + 1) z)) := q_ld (fl_A1 hf) h0 h1 (by decide)
theorem fl_l2 (hf : isF f) {z : Int} (h0 : 0 ≤ z) (h1 : z < 48) : ex_ild (q_h L xs s O c) (f + 2) (q_I z) = some (q_I (q_g s (f + 2) z)) := q_ld (fl_A2 hf) h0 h1 (by decide)
theorem fl_s1 (hf : isF f) {z v : Int} (h0 : 0 ≤ z) (h1 : z < 48) : ex_ist (q_h L xs s O c) (f + 1) (q_I z) (q_I v) = some (q_h L xs (q_u s (f + 1) z v) O c) := q_st (fl_A1 hf) h0 h1 (by decide)
theorem fl_s2 (hf : isF f) {z v : Int} (h0 : 0 ≤ z) (h1 : z < 48) : ex_ist (q_h L xs s O c) (f + 2) (q_I z) (q_I v) = some (q_h L xs (q_u s (f + 2) z v) O c) := q_st (fl_A2 hf) h0 h1 (by decide)
theorem fl_rg (hf : isF f) : 251 ≤ f ∧ f ≤ 261 ∧ f ≠ 252 ∧ f ≠ 253 := by
  unfold isF at hf
  omega
variable {F S : Int → Int32} {rw lm : Int}
theorem fm_f {k : Nat} (h : k < f ∨ f + 2 < k) : q_g (fm s f F S rw lm) k = q_g s k := by
  unfold fm
  rw [q_u_f (by omega), q_u_f (by omega), q_v_f (by omega), q_v_f (by omega)]
theorem fm_g1 {z : Int} (h0 : 0 ≤ z) (h1 : z < 48) : q_g (fm s f F S rw lm) (f + 1) z = (F z).toInt := by
  unfold fm
  rw [q_gu_ne (by omega), q_gu_ne (by omega), q_v_ne (by omega), q_v_g0 _ _ _ h0 h1]
theorem fm_g2 {z : Int} (h0 : 0 ≤ z) (h1 : z < 48) : q_g (fm s f F S rw lm) (f + 2) z = (S z).toInt := by
  unfold fm
  rw [q_gu_ne (by omega), q_gu_ne (by omega), q_v_g0 _ _ _ h0 h1]
theorem fm_d : q_g (fm s f F S rw lm) f 2 = q_sg rw := by
  unfold fm
  rw [q_gu_ne (by omega), q_gu_eq rfl]
theorem fm_s : q_g (fm s f F S rw lm) f 3 = q_sg lm := by
  unfold fm
  rw [q_gu_eq rfl]
theorem fm_1 {z v : Int} (h0 : 0 ≤ z) (h1 : z < 48) : q_u (fm s f F S rw lm) (f + 1) z v = fm s f (fun y => if y = z then q_I v else F y) S rw lm := by
  unfold fm
  rw [q_uu_ne (k := f) (z := 3) (k' := f + 1) (by omega), q_uu_ne (k := f) (z := 2) (k' := f + 1) (by omega), q_vu_ne (k := f + 2) (k' := f + 1) (by omega), q_v_u0 _ _ _ h0 h1]
theorem fm_2 {z v : Int} (h0 : 0 ≤ z) (h1 : z < 48) : q_u (fm s f F S rw lm) (f + 2) z v = fm s f F (fun y => if y = z then q_I v else S y) rw lm := by
  unfold fm
  rw [q_uu_ne (k := f) (z := 3) (k' := f + 2) (by omega), q_uu_ne (k := f) (z := 2) (k' := f + 2) (by omega), q_v_u0 _ _ _ h0 h1]
theorem fm_3 {v : Int} : q_u (fm s f F S rw lm) f 2 v = fm s f F S v lm := by
  unfold fm
  rw [q_uu_ne (k := f) (z := 3) (k' := f) (z' := 2) (by omega), q_uu_eq]
theorem fm_4 {v : Int} : q_u (fm s f F S rw lm) f 3 v = fm s f F S rw v := by
  unfold fm
  rw [q_uu_eq]
theorem fm_c {k : Nat} (h : k < f ∨ f + 2 < k) : fm s f F S rw lm k = s k := by
  funext z
  unfold fm q_u q_v
  simp only [show ¬ k = f by omega, show ¬ k = f + 1 by omega, show ¬ k = f + 2 by omega, false_and, if_false]
theorem vf0_ne {m : Int → Int} {y z : Int} {F : Int → Int32} (h : ∀ k, 0 ≤ k → k < pg m y 1 → pg m y (4 + k) ≠ z) : VF m 0 y F z = F z := by
  have key : ∀ n : Nat, (n : Int) ≤ pg m y 1 → q_it (fun k V z => if z = pg m y (4 + k) then q_I (pg m y (10 + k)) else V z) n F z = F z := by
    intro n
    induction n with
    | zero => intro _; rfl
    | succ n ih =>
      intro hn
      show (if z = pg m y (4 + (n : Int)) then _ else _) = _
      rw [if_neg (fun e => h n (by omega) (by omega) e.symm)]
      exact ih (by omega)
  by_cases h0 : 0 ≤ pg m y 1
  · exact key (pg m y 1).toNat (by omega)
  · show q_it _ (pg m y 1).toNat F z = F z
    rw [show (pg m y 1).toNat = 0 by omega]
    rfl
theorem vf0_eq {m : Int → Int} {y k : Int} {F : Int → Int32} (h0 : 0 ≤ k) (h1 : k < pg m y 1) (h : ∀ i, 0 ≤ i → i < pg m y 1 → pg m y (4 + i) = pg m y (4 + k) → i = k) : VF m 0 y F (pg m y (4 + k)) = q_I (pg m y (10 + k)) := by
  have key : ∀ n : Nat, (n : Int) ≤ pg m y 1 → k < n → q_it (fun k V z => if z = pg m y (4 + k) then q_I (pg m y (10 + k)) else V z) n F (pg m y (4 + k)) = q_I (pg m y (10 + k)) := by
    intro n
    induction n with
    | zero => intro _ h'; omega
    | succ n ih =>
      intro hn hk
      show (if pg m y (4 + k) = pg m y (4 + (n : Int)) then q_I (pg m y (10 + (n : Int))) else _) = _
      by_cases e : pg m y (4 + k) = pg m y (4 + (n : Int))
      · rw [if_pos e, h n (by omega) (by omega) e.symm]
      · rw [if_neg e]
        refine ih (by omega) ?_
        rcases Int.lt_or_eq_of_le (show k ≤ n by omega) with h' | h'
        · exact h'
        · exact absurd (by rw [h']) e
  exact key (pg m y 1).toNat (by omega) (by omega)
def FRl (m : Int → Int) : List Int → (Int → Int32) → Int → Int32
  | [], F => F
  | y :: r, F => FRl m r (VF m 0 y F)
def SLl : List Int → (Int → Int32) → Int → Int32
  | [], S => S
  | y :: r, S => SLl r (fun z => if z = y then q_I 1 else S z)
/-- slips with rows that are told once each -/
def LsI (m : Int → Int) (sl : List Int) : Prop := (∀ y, y ∈ sl → (0 ≤ pg m y 1 ∧ pg m y 1 ≤ 6) ∧ ∀ k, 0 ≤ k → k < pg m y 1 → 2 ≤ pg m y (4 + k) ∧ pg m y (4 + k) < 48 ∧ 0 ≤ pg m y (10 + k) ∧ pg m y (10 + k) < 2147483648) ∧ ∀ y y' k k', y ∈ sl → y' ∈ sl → 0 ≤ k → k < pg m y 1 → 0 ≤ k' → k' < pg m y' 1 → pg m y (4 + k) = pg m y' (4 + k') → y = y' ∧ k = k'
variable {m : Int → Int}
theorem cc_readSlip (hf : isF f) (H : RB m s 7) {y : Int} {F S : Int → Int32} {lm : Int} (y0 : 2 ≤ y) (y1 : y < 48) (hr : 0 ≤ pg m y 1 ∧ pg m y 1 ≤ 6) (hA : ∀ k, 0 ≤ k → k < pg m y 1 → 2 ≤ pg m y (4 + k) ∧ pg m y (4 + k) < 48 ∧ 0 ≤ pg m y (10 + k) ∧ pg m y (10 + k) < 2147483648) (hD : ∀ k k', 0 ≤ k → k < pg m y 1 → 0 ≤ k' → k' < pg m y 1 → pg m y (4 + k) = pg m y (4 + k') → k = k') (hF : ∀ k, 0 ≤ k → k < pg m y 1 → F (pg m y (4 + k)) = q_I (-1)) : EV (d + 1) 60 0 [.ref f, .ref 8, .int (q_I (y)), .null, .null] [] (q_h L xs (fm s f F S (cn48 F) lm) O c) = some (.inl none, q_h L xs (fm s f (VF m 0 y F) S (cn48 (VF m 0 y F)) lm) O c) := by
  have hfr := fl_rg hf
  simp (disch := first | omega | exact q_b_01 _) only [↓reduceIte, q_bk0, q_bk1, q_bk2, q_sg_b, q_b_0, q_b_n0, q_b_1, q_b_n1, q_b_T, q_b_F, q_sg_g, q_sg_sg, q_sg_xs, q_sg_id, q_gu_ne, q_gu_eq, q_g_fne, q_g_cpe, q_w_f, q_v_f, q_u_f, q_fn_f, q_cp_f, q_sg_pg, q_sg_hc, q_lt_t, q_lt_f, q_le_t, q_le_f, q_eq_t, q_eq_f, ne_eq, eq_self, Bool.false_eq_true, Bool.true_eq_false, not_true_eq_false, not_false_eq_true, true_and, and_true, false_and, and_false, true_or, or_true, false_or, or_false, if_true, if_false, Int.reduceAdd, Int.reduceMul, Int.reduceSub, Int.reduceNeg, R_60_0, R_60_9, R_60_12, R_60_18, R_60_29, R_60_36, R_60_39, R_60_43, R_60_56, R_60_57, R_60_62, R_60_67, R_60_73, C_60_33]
  obtain ⟨t, e1, e2, e3⟩ := q_for (fun j (t : Value × (Int → Int32)) => EV (d + 1) 60 2 [.ref f, .ref 8, .int (q_I (y)), .int (q_I (j)), t.1] [] (q_h L xs (fm s f t.2 S (cn48 t.2) lm) O c)) (fun j t => t.2 = q_it (fun k V z => if z = pg m y (4 + k) then q_I (pg m y (10 + k)) else V z) j.toNat F ∧ ∀ k, j ≤ k → k < pg m y 1 → t.2 (pg m y (4 + k)) = q_I (-1)) (lo := 0) (hi := pg m y 1) (by omega) (fun j t h1 h2 ⟨eW, eF⟩ => by
    have A := hA j h1 h2
    have cr := cn48_rg t.2
    refine ⟨(.int (q_I (pg m y (4 + j))), fun z => if z = pg m y (4 + j) then q_I (pg m y (10 + j)) else t.2 z), ?_, ?_, ?_⟩
    · rw [R_60_2 _ _ _ _ _ _ _ _ _ _ (by omega) (by omega)]
      simp (disch := first | omega | exact q_b_01 _) only [↓reduceIte, q_bk0, q_bk1, q_bk2, q_sg_b, q_b_0, q_b_n0, q_b_1, q_b_n1, q_b_T, q_b_F, q_sg_g, q_sg_sg, q_sg_xs, q_sg_id, q_gu_ne, q_gu_eq, q_g_fne, q_g_cpe, q_w_f, q_v_f, q_u_f, q_fn_f, q_cp_f, q_sg_pg, q_sg_hc, q_lt_t, q_lt_f, q_le_t, q_le_f, q_eq_t, q_eq_f, ne_eq, eq_self, Bool.false_eq_true, Bool.true_eq_false, not_true_eq_false, not_false_eq_true, true_and, and_true, false_and, and_false, true_or, or_true, false_or, or_false, if_true, if_false, Int.reduceAdd, Int.reduceMul, Int.reduceSub, Int.reduceNeg, R_60_0, R_60_9, R_60_12, R_60_18, R_60_29, R_60_36, R_60_39, R_60_43, R_60_56, R_60_57, R_60_62, R_60_67, R_60_73, C_60_33, cc_isInner, fl_g0 hf, fl_g2 hf, fl_s1 hf, fl_p2 hf, fm_f, fm_1, fm_3, fm_d, rb_size H, rb_first H, rb_second H]
      rw [← cn48_1 (by omega) (by omega) (eF j (Int.le_refl j) h2) (q_I_m1 A.2.2.1 A.2.2.2)]
    · rw [q_it_1 _ h1, ← eW]
    · intro k k1 k2
      show (if pg m y (4 + k) = pg m y (4 + j) then _ else _) = _
      rw [if_neg, eF k (by omega) k2]
      intro e
      have := hD k j (by omega) k2 h1 h2 e
      omega) (t := (.null, F)) ⟨rfl, hF⟩
  refine Eq.trans e1 ?_
  rw [R_60_2 _ _ _ _ _ _ _ _ _ _ (by omega) (by omega)]
  simp (disch := first | omega | exact q_b_01 _) only [↓reduceIte, q_bk0, q_bk1, q_bk2, q_sg_b, q_b_0, q_b_n0, q_b_1, q_b_n1, q_b_T, q_b_F, q_sg_g, q_sg_sg, q_sg_xs, q_sg_id, q_gu_ne, q_gu_eq, q_g_fne, q_g_cpe, q_w_f, q_v_f, q_u_f, q_fn_f, q_cp_f, q_sg_pg, q_sg_hc, q_lt_t, q_lt_f, q_le_t, q_le_f, q_eq_t, q_eq_f, ne_eq, eq_self, Bool.false_eq_true, Bool.true_eq_false, not_true_eq_false, not_false_eq_true, true_and, and_true, false_and, and_false, true_or, or_true, false_or, or_false, if_true, if_false, Int.reduceAdd, Int.reduceMul, Int.reduceSub, Int.reduceNeg, R_60_0, R_60_9, R_60_12, R_60_18, R_60_29, R_60_36, R_60_39, R_60_43, R_60_56, R_60_57, R_60_62, R_60_67, R_60_73, C_60_33, fm_f, rb_size H]
  rw [e2]
  rfl
end FM
