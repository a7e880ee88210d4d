/-! TEXTS OF A LAW: its codes -/
/-! THE CLASS: codes of a law -/
def FL (s t : Nat → Int → Int32) : Prop := ∀ k z, k ≠ 55 → k ≠ 59 → ¬ (k = 2 ∧ (z = 5 ∨ z = 6)) → t k z = s k z
def CL (T : Int → Int) (E : Int) (C i : Nat) (l : List Int) (s : Nat → Int → Int32) : Prop := TS T E C s ∧ q_g s 2 5 = i ∧ i ≤ C ∧ q_g s 55 5 = l.length ∧ ∀ k : Nat, k < l.length → q_g s 59 k = l.getD k 0
def CSp (T : Int → Int) (E : Int) (C i : Nat) (s : Nat → Int → Int32) (l : List Int) (r : PR) (q : Int → (Nat → Int → Int32) → Prop) : Prop := match r with
  | .inl e => ∃ t, q 0 t ∧ q_g t 2 6 = e ∧ FL s t
  | .inr p => ∃ t, q 1 t ∧ CL T E C p.1 (l ++ p.2) t ∧ p.2.length + i ≤ p.1 ∧ q_g t 2 6 = q_g s 2 6 ∧ q_g t 55 0 = q_g s 55 0 ∧ FL s t
section LPU
variable {d L : Nat} {xs : Nat → Int32} {s t u : Nat → Int → Int32} {O : Nat → Int64} {c : Bool × Nat × Nat} {T : Int → Int} {E : Int} {C i : Nat} {l : List Int}
theorem FL_refl : FL s s := fun _ _ _ _ _ => rfl
theorem FL_trans (h : FL s t) (h' : FL t u) : FL s u := fun k z a1 a2 a3 => (h' k z a1 a2 a3).trans (h k z a1 a2 a3)
theorem FL_u {k : Nat} {z v : Int} (h : FL s t) (hk : k = 55 ∨ k = 59 ∨ k = 2 ∧ (z = 5 ∨ z = 6)) : FL s (q_u t k z v) := fun k' z' a1 a2 a3 => by
  rw [q_u_n (by omega), h k' z' a1 a2 a3]
theorem cc_addCode {x : Int} (h : CL T E C i l s) (hl : l.length < 400) (x0 : 0 ≤ x) (x1 : x < 5000) : ∃ t, EV (d) 70 0 [.ref 55, .int (q_I (x))] [] (q_h L xs s O c) = some (.inl none, q_h L xs (t) O c) ∧ CL T E C i (l ++ [x]) t ∧ q_g t 2 6 = q_g s 2 6 ∧ q_g t 55 0 = q_g s 55 0 ∧ FL s t := by
  obtain ⟨h1, h2, h3, h4, h5⟩ := h
  have g : q_g (q_u s 59 (l.length : Int) x) 55 5 = (l.length : Int) := by rw [q_gu_ne (by omega), h4]
  refine ⟨q_u (q_u s 59 (l.length : Int) x) 55 5 ((l.length : Int) + 1), ?_, ⟨TS_u (TS_u h1 (by omega)) (by omega), ?_, h3, ?_, fun k hk => ?_⟩, ?_, ?_, FL_u (FL_u FL_refl (by omega)) (by omega)⟩
  · simp (disch := first | omega | exact q_b_01 _) only [↓reduceIte, q_bk0, q_bk1, q_bk2, q_sg_b, q_b_0, q_b_n0, q_b_1, q_b_n1, q_b_T, q_b_F, q_sg_g, q_sg_sg, q_sg_xs, q_sg_id, q_gu_ne, q_gu_eq, q_g_fne, q_g_cpe, q_w_f, q_v_f, q_u_f, q_fn_f, q_cp_f, q_sg_pg, q_sg_hc, q_lt_t, q_lt_f, q_le_t, q_le_f, q_eq_t, q_eq_f, ne_eq, eq_self, Bool.false_eq_true, Bool.true_eq_false, not_true_eq_false, not_false_eq_true, true_and, and_true, false_and, and_false, true_or, or_true, false_or, or_false, if_true, if_false, Int.reduceAdd, Int.reduceMul, Int.reduceSub, Int.reduceNeg, h4, g, R_70_0, R_70_7, R_70_17, R_70_27, R_70_37]
  · rw [q_gu_ne (by omega), q_gu_ne (by omega), h2]
  · rw [q_gu_eq rfl, q_sg_id (by omega) (by omega), List.length_append]
    simp
  · rw [List.length_append] at hk
    have hk' : k < l.length + 1 := hk
    rw [q_gu_ne (by omega)]
    by_cases e : k = l.length
    · subst e
      rw [q_gu_eq rfl, q_sg_id (by omega) (by omega)]
      simp [List.getD_eq_getElem?_getD]
    · rw [q_gu_ne (by omega), h5 k (by omega)]
      simp [List.getD_eq_getElem?_getD, List.getElem?_append_left (show k < l.length by omega)]
  · rw [q_gu_ne (by omega), q_gu_ne (by omega)]
  · rw [q_gu_ne (by omega), q_gu_ne (by omega)]
theorem CL_step (h : CL T E C i l s) (hi : i < C) : CL T E C (i + 1) l (q_u s 2 5 ((i + 1 : Nat) : Int)) := by
  obtain ⟨h1, h2, h3, h4, h5⟩ := h
  have hC := h1.1
  refine ⟨TS_u h1 (by omega), by rw [q_gu_eq rfl, q_sg_id (by omega) (by omega)], by omega, by rw [q_gu_ne (by omega), h4], fun k hk => by rw [q_gu_ne (by omega)]; exact h5 k hk⟩
theorem CL_lt (h : CL T E C i l s) (ht : thg T E (bs T E i) ≠ 0) : i < C := iC_of h.1 h.2.2.1 ht
/-- refused here -/
theorem cc_ref (h : CL T E C i l s) : ∃ t, EV (d) 122 0 [.ref 2] [] (q_h L xs s O c) = some (.inl (some (.int (q_I (0)))), q_h L xs (t) O c) ∧ q_g t 2 6 = bs T E i ∧ FL s t := by
  refine ⟨q_u s 2 6 (bs T E i), cc_refuse h.1 h.2.1 h.2.2.1, ?_, FL_u FL_refl (by omega)⟩
  have b1 : q_g s 5 i = bs T E i := (h.1.2.2.2 i h.2.2.1).2.1
  have br := q_g_rg s 5 i
  rw [b1] at br
  rw [q_gu_eq rfl, q_sg_id br.1 br.2]
end LPU
