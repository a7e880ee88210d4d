/-! THE REFERENCE: lines of work -/
def FC (s t : Nat → Int → Int32) : Prop := ∀ k z, ¬ (k = 285 ∧ (z = 11 ∨ z = 12 ∨ z = 19)) → k ≠ 292 → k ≠ 293 → ¬ (k = 286 ∧ (z = 3 ∨ z = 5)) → t k z = s k z
def MF (T : Int → Int) (E e : Int) (s : Nat → Int → Int32) : Prop := TxM T E s ∧ q_g s 285 12 = e ∧ 0 ≤ e ∧ 0 ≤ q_g s 285 11 ∧ q_g s 285 11 ≤ 1000
def MW (r0 k0 : Int) (w : Int × (Int → Int) × (Int → Int) × Int × Int) (s : Nat → Int → Int32) : Prop := q_g s 285 19 = w.1 ∧ 0 ≤ w.1 ∧ w.1 ≤ 12 ∧ (∀ k, 0 ≤ k → k < w.1 → q_g s 292 k = w.2.1 k ∧ q_g s 293 k = w.2.2.1 k) ∧ q_g s 286 3 = (if w.2.2.2.1 = -1 then r0 else w.2.2.2.1) ∧ q_g s 286 5 = (if w.2.2.2.2 = -1 then k0 else w.2.2.2.2)
section MWK
variable {d L : Nat} {xs : Nat → Int32} {s t u : Nat → Int → Int32} {O : Nat → Int64} {c : Bool × Nat × Nat} {T : Int → Int} {E b e : Int} {i : Nat}
theorem FC_u {k : Nat} {z v : Int} (h : FC s t) (hk : k = 292 ∨ k = 293 ∨ k = 285 ∧ (z = 11 ∨ z = 12 ∨ z = 19) ∨ k = 286 ∧ (z = 3 ∨ z = 5)) : FC s (q_u t k z v) := fun k' z' a1 a2 a3 a4 => by
  rw [q_u_n (by omega), h k' z' a1 a2 a3 a4]
theorem FC_refl : FC s s := fun _ _ _ _ _ _ => rfl
theorem FC_trans (h : FC s t) (h' : FC t u) : FC s u := fun k z a1 a2 a3 a4 => (h' k z a1 a2 a3 a4).trans (h k z a1 a2 a3 a4)
theorem MF_of {a : Int} (H : TX T E) (h : MS T E b s) (a0 : 0 ≤ a) (a1 : a ≤ 1000) : MF T E b (q_u (q_u s 285 11 a) 285 12 b) := by
  obtain ⟨b0, b1, b2⟩ := MS_b H h
  refine ⟨TxM_u (TxM_u h.1 (by omega)) (by omega), by rw [q_gu_eq rfl, q_sg_id (by omega) (by omega)], b0, ?_, ?_⟩ <;> rw [q_gu_ne (by omega), q_gu_eq rfl, q_sg_id (by omega) (by omega)] <;> assumption
theorem MF_sk (H : TX T E) (h : MF T E e s) : MF T E e (q_u s 285 11 (sk T E (q_g s 285 11))) := by
  have := sk_rg T H.2.1 h.2.2.2.1 h.2.2.2.2
  have h0 := h.2.2.2.1
  refine ⟨TxM_u h.1 (by omega), by rw [q_gu_ne (by omega), h.2.1], h.2.2.1, ?_, ?_⟩ <;> rw [q_gu_eq rfl, q_sg_id (by omega) (by omega)] <;> omega
theorem MF_ne (h : MF T E e s) : q_g s 285 12 ≠ -1 := by
  have := h.2.1
  have := h.2.2.1
  omega
theorem mm_chF {x1 x2 x3 x4 x5 : Int} (H : TX T E) (h : MF T E e s) : ∃ t, EV (d + 3) 236 92 [.ref 285, .int (q_I (x1)), .int (q_I (x2)), .int (q_I (x3)), .int (q_I (x4)), .int (q_I (x5))] [] (q_h L xs s O c) = some (.inl none, q_h L xs (t) O c) ∧ MF T E e t ∧ FC s t := by
  refine ⟨q_u s 285 11 (sk T E (q_g s 285 11)), ?_, MF_sk H h, FC_u FC_refl (by omega)⟩
  have := mm_isFigureF (d := d) (L := L) (xs := xs) (O := O) (c := c) h.1 H h.2.2.2.1 h.2.2.2.2 (MF_ne h)
  simp (disch := first | omega | exact q_b_01 _) only [↓reduceIte, q_bk0, q_bk1, q_bk2, q_sg_b, q_b_0, q_b_n0, q_b_1, q_b_n1, q_b_T, q_b_F, q_sg_g, q_sg_sg, q_sg_xs, q_sg_id, q_gu_ne, q_gu_eq, q_g_fne, q_g_cpe, q_w_f, q_v_f, q_u_f, q_fn_f, q_cp_f, q_sg_pg, q_sg_hc, q_lt_t, q_lt_f, q_le_t, q_le_f, q_eq_t, q_eq_f, ne_eq, eq_self, Bool.false_eq_true, Bool.true_eq_false, not_true_eq_false, not_false_eq_true, true_and, and_true, false_and, and_false, true_or, or_true, false_or, or_false, if_true, if_false, Int.reduceAdd, Int.reduceMul, Int.reduceSub, Int.reduceNeg, this, R_236_0, R_236_2, R_236_6, R_236_10, R_236_20, R_236_25, R_236_32, R_236_38, R_236_45, R_236_48, R_236_50, R_236_60, R_236_71, R_236_82, R_236_92, R_236_96, R_236_100, C_236_7, C_236_22, C_236_29, C_236_42, C_236_93]
theorem MW_push {r0 k0 : Int} {w : Int × (Int → Int) × (Int → Int) × Int × Int} {k v : Int} (h : MW r0 k0 w s) (hw : w.1 < 12) (hk : -1 ≤ k ∧ k ≤ 999) (hv : -1 ≤ v ∧ v ≤ 999) (e : ∀ k z, ¬ (k = 285 ∧ (z = 11 ∨ z = 12)) → t k z = s k z) : MW r0 k0 (wpu w k v) (q_u (q_u (q_u t 292 w.1 k) 293 w.1 v) 285 19 (w.1 + 1)) := by
  obtain ⟨h1, h2, h3, h4, h5, h6⟩ := h
  have g : ∀ k z, ¬ (k = 285 ∧ (z = 11 ∨ z = 12)) → q_g t k z = q_g s k z := fun k z a => by
    show (t k z).toInt = _
    rw [e k z a]
    rfl
  refine ⟨by rw [q_gu_eq rfl, q_sg_id (by omega) (by omega)]; rfl, by show 0 ≤ w.1 + 1; omega, by show w.1 + 1 ≤ 12; omega, fun z z0 z1 => ?_, ?_, ?_⟩
  · have z1' : z < w.1 + 1 := z1
    show _ = (if z = w.1 then k else w.2.1 z) ∧ _ = (if z = w.1 then v else w.2.2.1 z)
    have e1 : q_g (q_u (q_u (q_u t 292 w.1 k) 293 w.1 v) 285 19 (w.1 + 1)) 292 z = q_g (q_u t 292 w.1 k) 292 z := by rw [q_gu_ne (by omega), q_gu_ne (by omega)]
    have e2 : q_g (q_u (q_u (q_u t 292 w.1 k) 293 w.1 v) 285 19 (w.1 + 1)) 293 z = q_g (q_u (q_u t 292 w.1 k) 293 w.1 v) 293 z := by rw [q_gu_ne (by omega)]
    rw [e1, e2]
    by_cases e : z = w.1
    · rw [if_pos e, if_pos e, e, q_gu_eq rfl, q_gu_eq rfl, q_sg_id (by omega) (by omega), q_sg_id (by omega) (by omega)]
      exact ⟨rfl, rfl⟩
    · rw [if_neg e, if_neg e, q_gu_ne (by omega), q_gu_ne (by omega), q_gu_ne (by omega), g 292 z (by omega), g 293 z (by omega)]
      exact h4 z z0 (by omega)
  · rw [q_gu_ne (by omega), q_gu_ne (by omega), q_gu_ne (by omega), g 286 3 (by omega)]
    exact h5
  · rw [q_gu_ne (by omega), q_gu_ne (by omega), q_gu_ne (by omega), g 286 5 (by omega)]
    exact h6
theorem MS_push {n k v m : Int} (h : MS T E b s) : MS T E b (q_u (q_u (q_u s 292 n k) 293 n v) 285 19 m) := MS_fr h (fun z a1 a2 => by rw [q_u_n (by omega), q_u_n (by omega), q_u_n (by omega)]) (fun z => by rw [q_u_n (by omega), q_u_n (by omega), q_u_n (by omega)]) (fun z a => by rw [q_u_n (by omega), q_u_n (by omega), q_u_n (by omega)])
theorem MW_c {r0 k0 v : Int} {w : Int × (Int → Int) × (Int → Int) × Int × Int} (h : MW r0 k0 w s) : MW r0 k0 w (q_u s 285 11 v) := by
  obtain ⟨h1, h2, h3, h4, h5, h6⟩ := h
  refine ⟨by rw [q_gu_ne (by omega), h1], h2, h3, fun k a b => ?_, by rw [q_gu_ne (by omega), h5], by rw [q_gu_ne (by omega), h6]⟩
  rw [q_gu_ne (by omega), q_gu_ne (by omega)]
  exact h4 k a b
/-- behind a change that is right -/
theorem mm_chG {va : Bool} {r0 k0 : Int} {w : Int × (Int → Int) × (Int → Int) × Int × Int} {k v x3 : Int} {y5 : Value} (H : TX T E) (h : MS T E b t) (hW : MW r0 k0 w s) (hw : w.1 < 12) (hk : -1 ≤ k ∧ k ≤ 999) (hv : -1 ≤ v ∧ v ≤ 999) (e : ∀ k z, ¬ (k = 285 ∧ (z = 11 ∨ z = 12)) → t k z = s k z) : ∃ u, EV (d + 3) 236 50 [.ref 285, .int (q_I ((if va = true then 1 else 0))), .int (q_I (1)), .int (q_I (x3)), .int (q_I (k)), y5] [.int (q_I (v))] (q_h L xs (t) O c) = EV (d + 3) 236 2 [.ref 285, .int (q_I ((if va = true then 1 else 0))), .int (q_I (q_b (thg T E b = 2))), .int (q_I (x3)), .int (q_I (k)), .int (q_I (v))] [] (q_h L xs (u) O c) ∧ MS T E b u ∧ MW r0 k0 (wpu w k v) u ∧ FC s u := by
  refine ⟨q_u (q_u (q_u (q_u t 292 w.1 k) 293 w.1 v) 285 19 (w.1 + 1)) 285 11 b, ?_, MS_cur H (MS_push h), MW_c (MW_push hW hw hk hv e), FC_u (FC_u (FC_u (FC_u (fun k z a1 a2 a3 a4 => e k z (by omega)) (by omega)) (by omega)) (by omega)) (by omega)⟩
  have g : q_g t 285 19 = w.1 := by
    show (t 285 19).toInt = _
    rw [e 285 19 (by omega)]
    exact hW.1
  have g2 : q_g (q_u t 292 w.1 k) 285 19 = w.1 := by rw [q_gu_ne (by omega), g]
  have g3 : q_g (q_u (q_u t 292 w.1 k) 293 w.1 v) 285 19 = w.1 := by rw [q_gu_ne (by omega), g2]
  have h0 := hW.2.1
  have hf := h.2.1
  have := ms_isFigure (d := d) (L := L) (xs := xs) (O := O) (c := c) H (MS_push (n := w.1) (k := k) (v := v) (m := w.1 + 1) h)
  simp (disch := first | omega | exact q_b_01 _) only [↓reduceIte, q_bk0, q_bk1, q_bk2, q_sg_b, q_b_0, q_b_n0, q_b_1, q_b_n1, q_b_T, q_b_F, q_sg_g, q_sg_sg, q_sg_xs, q_sg_id, q_gu_ne, q_gu_eq, q_g_fne, q_g_cpe, q_w_f, q_v_f, q_u_f, q_fn_f, q_cp_f, q_sg_pg, q_sg_hc, q_lt_t, q_lt_f, q_le_t, q_le_f, q_eq_t, q_eq_f, ne_eq, eq_self, Bool.false_eq_true, Bool.true_eq_false, not_true_eq_false, not_false_eq_true, true_and, and_true, false_and, and_false, true_or, or_true, false_or, or_false, if_true, if_false, Int.reduceAdd, Int.reduceMul, Int.reduceSub, Int.reduceNeg, hf, g, g2, g3, this, R_236_0, R_236_6, R_236_10, R_236_20, R_236_25, R_236_32, R_236_38, R_236_45, R_236_48, R_236_50, R_236_60, R_236_71, R_236_82, R_236_92, R_236_96, R_236_100, C_236_7, C_236_22, C_236_29, C_236_42, C_236_93]
end MWK
