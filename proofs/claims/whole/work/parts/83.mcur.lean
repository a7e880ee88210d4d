/-! THE REFERENCE: where it reads -/
def TX (T : Int → Int) (E : Int) : Prop := 0 ≤ E ∧ E ≤ 400 ∧ ∀ j, 0 ≤ j → j < E → 0 ≤ T j ∧ T j ≤ 255
def MS (T : Int → Int) (E b : Int) (s : Nat → Int → Int32) : Prop := TxM T E s ∧ q_g s 285 12 = -1 ∧ sk T E (q_g s 285 11) = b ∧ 0 ≤ q_g s 285 11 ∧ q_g s 285 11 ≤ E
section MCU
variable {d L : Nat} {xs : Nat → Int32} {s t : Nat → Int → Int32} {O : Nat → Int64} {c : Bool × Nat × Nat} {T : Int → Int} {E b : Int}
theorem sg_iff {x : Int} (h1 : x < 48 ∨ 57 < x) (h2 : x < 97 ∨ 122 < x) : (thg T E b = 3 ∧ tel T E b = x) ↔ (b < E ∧ T b = x) := by
  have g1 := run_ge 97 122 T E b
  have g2 := run_ge 48 57 T E b
  unfold thg tel
  by_cases e : E ≤ b
  · rw [if_pos e, if_pos e]
    omega
  · rw [if_neg e, if_neg e]
    constructor
    · intro h
      split at h
      · omega
      · split at h
        · omega
        · exact ⟨by omega, h.2⟩
    · intro h
      have e1 : run 97 122 T E b = b := run_no (by omega)
      have e2 : run 48 57 T E b = b := run_no (by omega)
      rw [e1, e2, if_neg (by omega), if_neg (by omega), if_neg (by omega), if_neg (by omega)]
      exact ⟨rfl, h.2⟩
theorem sg_tend (h : thg T E b = 3) : tend T E b = b + 1 ∧ b < E := by
  unfold thg at h
  unfold tend
  by_cases e : E ≤ b
  · rw [if_pos e] at h
    omega
  · rw [if_neg e] at h
    split at h
    · omega
    · split at h
      · omega
      · rename_i a1 a2
        rw [if_neg a1, if_neg a2]
        exact ⟨rfl, by omega⟩
theorem thg_lt (h : thg T E b ≠ 0) : b < E := by
  unfold thg at h
  by_cases e : E ≤ b
  · rw [if_pos e] at h
    omega
  · omega
theorem thg_ge (h : thg T E b = 0) : E ≤ b := by
  unfold thg at h
  by_cases e : E ≤ b
  · exact e
  · rw [if_neg e] at h
    split at h
    · omega
    · split at h <;> omega
theorem dig_iff : (b < E ∧ 48 ≤ T b ∧ T b ≤ 57) ↔ thg T E b = 2 := by
  constructor
  · intro h
    exact (dig_thg h.1).mpr h.2
  · intro h
    have := thg_lt (T := T) (E := E) (b := b) (by omega)
    exact ⟨this, (dig_thg this).mp h⟩
theorem MS_k (H : TX T E) (h : MS T E b s) : q_g s 285 11 ≤ 1000 := Int.le_trans h.2.2.2.2 (by have := H.2.1; omega)
theorem MS_le (H : TX T E) (h : MS T E b s) : b ≤ E := by
  rw [← h.2.2.1]
  exact run_le h.2.2.2.2
theorem MS_b (H : TX T E) (h : MS T E b s) : 0 ≤ b ∧ b ≤ 1000 ∧ sk T E b = b := by
  have := sk_rg T H.2.1 h.2.2.2.1 (MS_k H h)
  rw [h.2.2.1] at this
  have h0 := h.2.2.2.1
  refine ⟨by omega, by omega, ?_⟩
  rw [← h.2.2.1]
  exact run_idem
theorem MS_cur (H : TX T E) (h : MS T E b s) : MS T E b (q_u s 285 11 b) := by
  obtain ⟨a1, a2, a3⟩ := MS_b H h
  have a4 := MS_le H h
  refine ⟨TxM_u h.1 (by omega), by rw [q_gu_ne (by omega), h.2.1], ?_, ?_, ?_⟩ <;> rw [q_gu_eq rfl, q_sg_id (by omega) (by omega)] <;> assumption
theorem MS_nxt (H : TX T E) (h : MS T E b s) (hb : b < E) : MS T E (nxt T E b) (q_u s 285 11 (tend T E b)) := by
  obtain ⟨a1, a2, a3⟩ := MS_b H h
  have tg := tend_gt (T := T) hb
  have := H.2.1
  refine ⟨TxM_u h.1 (by omega), by rw [q_gu_ne (by omega), h.2.1], ?_, ?_, ?_⟩
  · rw [q_gu_eq rfl, q_sg_id (by omega) (by omega)]
    rfl
  · rw [q_gu_eq rfl, q_sg_id (by omega) (by omega)]
    omega
  · rw [q_gu_eq rfl, q_sg_id (by omega) (by omega)]
    omega
theorem MS_fr (h : MS T E b s) (h1 : ∀ z, 9 ≤ z → z ≤ 12 → t 285 z = s 285 z) (h2 : ∀ z, t 290 z = s 290 z) (h3 : ∀ z, 1049 ≤ z → t 286 z = s 286 z) : MS T E b t := by
  have g : ∀ z, 9 ≤ z → z ≤ 12 → q_g t 285 z = q_g s 285 z := fun z a b => by
    show (t 285 z).toInt = _
    rw [h1 z a b]
    rfl
  refine ⟨⟨by rw [g 10 (by omega) (by omega)]; exact h.1.1, ?_⟩, by rw [g 12 (by omega) (by omega)]; exact h.2.1, by rw [g 11 (by omega) (by omega)]; exact h.2.2.1, by rw [g 11 (by omega) (by omega)]; exact h.2.2.2.1, by rw [g 11 (by omega) (by omega)]; exact h.2.2.2.2⟩
  rw [g 9 (by omega) (by omega)]
  rcases h.1.2 with ⟨p, q⟩ | ⟨p, q⟩
  · refine Or.inl ⟨p, fun j j0 j1 => ?_⟩
    show (t 290 j).toInt = _
    rw [h2 j]
    exact q j j0 j1
  · refine Or.inr ⟨p, fun j j0 j1 => ?_⟩
    show (t 286 (1049 + j)).toInt = _
    rw [h3 (1049 + j) (by omega)]
    exact q j j0 j1
theorem ms_skip (H : TX T E) (h : MS T E b s) : EV (d + 1) 229 0 [.ref 285] [] (q_h L xs s O c) = some (.inl none, q_h L xs (q_u s 285 11 b) O c) := by
  have := mm_skip (d := d) (L := L) (xs := xs) (O := O) (c := c) h.1 H.2.1 H.2.2 rfl h.2.2.2.1 (MS_k H h)
  rw [h.2.2.1] at this
  exact this
theorem ms_here (H : TX T E) (h : MS T E b s) : EV (d + 2) 233 0 [.ref 285] [] (q_h L xs s O c) = some (.inl (some (.int (q_I (b)))), q_h L xs (q_u s 285 11 b) O c) := by
  have := mm_here (d := d) (L := L) (xs := xs) (O := O) (c := c) h.1 H.2.1 H.2.2 rfl h.2.2.2.1 (MS_k H h)
  rw [h.2.2.1] at this
  exact this
theorem ms_sign (H : TX T E) (h : MS T E b s) {x : Int} (x0 : 0 ≤ x) (x1 : x ≤ 255) (h1 : x < 48 ∨ 57 < x) (h2 : x < 97 ∨ 122 < x) : EV (d + 2) 230 0 [.ref 285, .int (q_I (x))] [] (q_h L xs s O c) = some (.inl (some (.int (q_I (q_b (thg T E b = 3 ∧ tel T E b = x))))), q_h L xs (q_u s 285 11 b) O c) := by
  have := mm_isSign (d := d) (L := L) (xs := xs) (O := O) (c := c) h.1 H.2.1 H.2.2 rfl h.2.2.2.1 (MS_k H h) x0 x1
  rw [h.2.2.1] at this
  rw [this]
  simp only [sg_iff h1 h2]
theorem ms_isFigure (H : TX T E) (h : MS T E b s) : EV (d + 2) 235 0 [.ref 285] [] (q_h L xs s O c) = some (.inl (some (.int (q_I (q_b (thg T E b = 2))))), q_h L xs (q_u s 285 11 b) O c) := by
  have := mm_isFigure (d := d) (L := L) (xs := xs) (O := O) (c := c) h.1 H.2.1 H.2.2 rfl h.2.2.2.1 (MS_k H h)
  rw [h.2.2.1] at this
  rw [this]
  simp only [h.2.1, true_and, dig_iff]
theorem ms_figures (H : TX T E) (h : MS T E b s) {lo hi : Int} (l0 : 0 ≤ lo) (l1 : lo ≤ 999) (h0 : 0 ≤ hi) (h1 : hi ≤ 999) : ((thg T E b = 2 ∧ lo ≤ tel T E b ∧ tel T E b ≤ hi) → EV (d + 3) 234 0 [.ref 285, .int (q_I (lo)), .int (q_I (hi)), .null, .null] [] (q_h L xs s O c) = some (.inl (some (.int (q_I (tel T E b)))), q_h L xs (q_u s 285 11 (tend T E b)) O c)) ∧ (¬ (thg T E b = 2 ∧ lo ≤ tel T E b ∧ tel T E b ≤ hi) → ∃ v a, EV (d + 3) 234 0 [.ref 285, .int (q_I (lo)), .int (q_I (hi)), .null, .null] [] (q_h L xs s O c) = some (.inl (some (.int (q_I (v)))), q_h L xs (q_u (q_u s 285 11 a) 285 12 b) O c) ∧ 0 ≤ a ∧ a ≤ 1000) := by
  have := mm_figures (d := d) (L := L) (xs := xs) (O := O) (c := c) h.1 H.1 H.2.1 H.2.2 rfl h.2.2.2.1 (MS_k H h) h.2.1 l0 l1 h0 h1
  have hb := MS_b H h
  rw [h.2.2.1] at this
  refine ⟨this.1, fun x => ?_⟩
  obtain ⟨v, a, q1, q2, q3, q4⟩ := this.2 x
  exact ⟨v, a, q1, by omega, by omega⟩
/-- where a fault is told already -/
theorem mm_figuresF {lo hi : Int} (hf : q_g s 285 12 ≠ -1) : EV (d) 234 0 [.ref 285, .int (q_I (lo)), .int (q_I (hi)), .null, .null] [] (q_h L xs s O c) = some (.inl (some (.int (q_I (0)))), q_h L xs (s) O c) := by
  simp (disch := first | omega | exact q_b_01 _) only [↓reduceIte, q_bk0, q_bk1, q_bk2, q_sg_b, q_b_0, q_b_n0, q_b_1, q_b_n1, q_b_T, q_b_F, q_sg_g, q_sg_sg, q_sg_xs, q_sg_id, q_gu_ne, q_gu_eq, q_g_fne, q_g_cpe, q_w_f, q_v_f, q_u_f, q_fn_f, q_cp_f, q_sg_pg, q_sg_hc, q_lt_t, q_lt_f, q_le_t, q_le_f, q_eq_t, q_eq_f, ne_eq, eq_self, Bool.false_eq_true, Bool.true_eq_false, not_true_eq_false, not_false_eq_true, true_and, and_true, false_and, and_false, true_or, or_true, false_or, or_false, if_true, if_false, Int.reduceAdd, Int.reduceMul, Int.reduceSub, Int.reduceNeg, hf, R_234_0, R_234_8, R_234_10, R_234_14, R_234_29, R_234_37, R_234_44, R_234_47, R_234_57, R_234_70, R_234_86, R_234_89, R_234_97, R_234_107, R_234_113, R_234_119, R_234_124, C_234_11, C_234_34, C_234_41, C_234_67, C_234_121]
theorem mm_skipAny (hT : TxM T E s) (H : TX T E) (h0 : 0 ≤ q_g s 285 11) (h1 : q_g s 285 11 ≤ 1000) : EV (d + 1) 229 0 [.ref 285] [] (q_h L xs s O c) = some (.inl none, q_h L xs (q_u s 285 11 (sk T E (q_g s 285 11))) O c) := mm_skip hT H.2.1 H.2.2 rfl h0 h1
theorem mm_isFigureF (hT : TxM T E s) (H : TX T E) (h0 : 0 ≤ q_g s 285 11) (h1 : q_g s 285 11 ≤ 1000) (hf : q_g s 285 12 ≠ -1) : EV (d + 2) 235 0 [.ref 285] [] (q_h L xs s O c) = some (.inl (some (.int (q_I (0)))), q_h L xs (q_u s 285 11 (sk T E (q_g s 285 11))) O c) := by
  have := mm_isFigure (d := d) (L := L) (xs := xs) (O := O) (c := c) hT H.2.1 H.2.2 rfl h0 h1
  rw [this, q_bf (fun x => hf x.1)]
theorem hs_risk (H : TX T E) (h : MS T E b s) : EV (d + 9) 231 0 [.ref 285, .ref 1000001, .null, .null] [] (q_h L xs s O c) = some (.inl (some (.int (q_I (q_b (thg T E b = 1 ∧ tel T E b = 2))))), q_h L xs (q_u s 285 11 (if thg T E b = 1 ∧ tel T E b = 2 then tend T E b else b)) O c) := by
  have := mm_has_risk (d := d) (L := L) (xs := xs) (O := O) (c := c) h.1 H.2.1 H.2.2 rfl h.2.2.2.1 (MS_k H h)
  rw [h.2.2.1] at this
  exact this
theorem hs_spare (H : TX T E) (h : MS T E b s) : EV (d + 9) 231 0 [.ref 285, .ref 1000002, .null, .null] [] (q_h L xs s O c) = some (.inl (some (.int (q_I (q_b (thg T E b = 1 ∧ tel T E b = 3))))), q_h L xs (q_u s 285 11 (if thg T E b = 1 ∧ tel T E b = 3 then tend T E b else b)) O c) := by
  have := mm_has_spare (d := d) (L := L) (xs := xs) (O := O) (c := c) h.1 H.2.1 H.2.2 rfl h.2.2.2.1 (MS_k H h)
  rw [h.2.2.1] at this
  exact this
theorem hs_cost (H : TX T E) (h : MS T E b s) : EV (d + 9) 231 0 [.ref 285, .ref 1000003, .null, .null] [] (q_h L xs s O c) = some (.inl (some (.int (q_I (q_b (thg T E b = 1 ∧ tel T E b = 4))))), q_h L xs (q_u s 285 11 (if thg T E b = 1 ∧ tel T E b = 4 then tend T E b else b)) O c) := by
  have := mm_has_cost (d := d) (L := L) (xs := xs) (O := O) (c := c) h.1 H.2.1 H.2.2 rfl h.2.2.2.1 (MS_k H h)
  rw [h.2.2.1] at this
  exact this
theorem hs_if (H : TX T E) (h : MS T E b s) : EV (d + 9) 231 0 [.ref 285, .ref 1000004, .null, .null] [] (q_h L xs s O c) = some (.inl (some (.int (q_I (q_b (thg T E b = 1 ∧ tel T E b = 5))))), q_h L xs (q_u s 285 11 (if thg T E b = 1 ∧ tel T E b = 5 then tend T E b else b)) O c) := by
  have := mm_has_if (d := d) (L := L) (xs := xs) (O := O) (c := c) h.1 H.2.1 H.2.2 rfl h.2.2.2.1 (MS_k H h)
  rw [h.2.2.1] at this
  exact this
theorem hs_not (H : TX T E) (h : MS T E b s) : EV (d + 9) 231 0 [.ref 285, .ref 1000005, .null, .null] [] (q_h L xs s O c) = some (.inl (some (.int (q_I (q_b (thg T E b = 1 ∧ tel T E b = 8))))), q_h L xs (q_u s 285 11 (if thg T E b = 1 ∧ tel T E b = 8 then tend T E b else b)) O c) := by
  have := mm_has_not (d := d) (L := L) (xs := xs) (O := O) (c := c) h.1 H.2.1 H.2.2 rfl h.2.2.2.1 (MS_k H h)
  rw [h.2.2.1] at this
  exact this
theorem hs_head (H : TX T E) (h : MS T E b s) : EV (d + 9) 231 0 [.ref 285, .ref 1000006, .null, .null] [] (q_h L xs s O c) = some (.inl (some (.int (q_I (q_b (thg T E b = 1 ∧ tel T E b = 9))))), q_h L xs (q_u s 285 11 (if thg T E b = 1 ∧ tel T E b = 9 then tend T E b else b)) O c) := by
  have := mm_has_head (d := d) (L := L) (xs := xs) (O := O) (c := c) h.1 H.2.1 H.2.2 rfl h.2.2.2.1 (MS_k H h)
  rw [h.2.2.1] at this
  exact this
theorem hs_slip (H : TX T E) (h : MS T E b s) : EV (d + 9) 231 0 [.ref 285, .ref 1000007, .null, .null] [] (q_h L xs s O c) = some (.inl (some (.int (q_I (q_b (thg T E b = 1 ∧ tel T E b = 10))))), q_h L xs (q_u s 285 11 (if thg T E b = 1 ∧ tel T E b = 10 then tend T E b else b)) O c) := by
  have := mm_has_slip (d := d) (L := L) (xs := xs) (O := O) (c := c) h.1 H.2.1 H.2.2 rfl h.2.2.2.1 (MS_k H h)
  rw [h.2.2.1] at this
  exact this
theorem hs_even (H : TX T E) (h : MS T E b s) : EV (d + 9) 231 0 [.ref 285, .ref 1000008, .null, .null] [] (q_h L xs s O c) = some (.inl (some (.int (q_I (q_b (thg T E b = 1 ∧ tel T E b = 11))))), q_h L xs (q_u s 285 11 (if thg T E b = 1 ∧ tel T E b = 11 then tend T E b else b)) O c) := by
  have := mm_has_even (d := d) (L := L) (xs := xs) (O := O) (c := c) h.1 H.2.1 H.2.2 rfl h.2.2.2.1 (MS_k H h)
  rw [h.2.2.1] at this
  exact this
theorem hs_page (H : TX T E) (h : MS T E b s) : EV (d + 9) 231 0 [.ref 285, .ref 1000009, .null, .null] [] (q_h L xs s O c) = some (.inl (some (.int (q_I (q_b (thg T E b = 1 ∧ tel T E b = 12))))), q_h L xs (q_u s 285 11 (if thg T E b = 1 ∧ tel T E b = 12 then tend T E b else b)) O c) := by
  have := mm_has_page (d := d) (L := L) (xs := xs) (O := O) (c := c) h.1 H.2.1 H.2.2 rfl h.2.2.2.1 (MS_k H h)
  rw [h.2.2.1] at this
  exact this
theorem hs_kind (H : TX T E) (h : MS T E b s) : EV (d + 9) 231 0 [.ref 285, .ref 1000010, .null, .null] [] (q_h L xs s O c) = some (.inl (some (.int (q_I (q_b (thg T E b = 1 ∧ tel T E b = 13))))), q_h L xs (q_u s 285 11 (if thg T E b = 1 ∧ tel T E b = 13 then tend T E b else b)) O c) := by
  have := mm_has_kind (d := d) (L := L) (xs := xs) (O := O) (c := c) h.1 H.2.1 H.2.2 rfl h.2.2.2.1 (MS_k H h)
  rw [h.2.2.1] at this
  exact this
theorem hs_wear (H : TX T E) (h : MS T E b s) : EV (d + 9) 231 0 [.ref 285, .ref 1000011, .null, .null] [] (q_h L xs s O c) = some (.inl (some (.int (q_I (q_b (thg T E b = 1 ∧ tel T E b = 14))))), q_h L xs (q_u s 285 11 (if thg T E b = 1 ∧ tel T E b = 14 then tend T E b else b)) O c) := by
  have := mm_has_wear (d := d) (L := L) (xs := xs) (O := O) (c := c) h.1 H.2.1 H.2.2 rfl h.2.2.2.1 (MS_k H h)
  rw [h.2.2.1] at this
  exact this
theorem hs_rows (H : TX T E) (h : MS T E b s) : EV (d + 9) 231 0 [.ref 285, .ref 1000012, .null, .null] [] (q_h L xs s O c) = some (.inl (some (.int (q_I (q_b (thg T E b = 1 ∧ tel T E b = 15))))), q_h L xs (q_u s 285 11 (if thg T E b = 1 ∧ tel T E b = 15 then tend T E b else b)) O c) := by
  have := mm_has_rows (d := d) (L := L) (xs := xs) (O := O) (c := c) h.1 H.2.1 H.2.2 rfl h.2.2.2.1 (MS_k H h)
  rw [h.2.2.1] at this
  exact this
theorem hs_version (H : TX T E) (h : MS T E b s) : EV (d + 9) 231 0 [.ref 285, .ref 1000013, .null, .null] [] (q_h L xs s O c) = some (.inl (some (.int (q_I (q_b (thg T E b = 1 ∧ tel T E b = 16))))), q_h L xs (q_u s 285 11 (if thg T E b = 1 ∧ tel T E b = 16 then tend T E b else b)) O c) := by
  have := mm_has_version (d := d) (L := L) (xs := xs) (O := O) (c := c) h.1 H.2.1 H.2.2 rfl h.2.2.2.1 (MS_k H h)
  rw [h.2.2.1] at this
  exact this
theorem hs_readers (H : TX T E) (h : MS T E b s) : EV (d + 9) 231 0 [.ref 285, .ref 1000014, .null, .null] [] (q_h L xs s O c) = some (.inl (some (.int (q_I (q_b (thg T E b = 1 ∧ tel T E b = 17))))), q_h L xs (q_u s 285 11 (if thg T E b = 1 ∧ tel T E b = 17 then tend T E b else b)) O c) := by
  have := mm_has_readers (d := d) (L := L) (xs := xs) (O := O) (c := c) h.1 H.2.1 H.2.2 rfl h.2.2.2.1 (MS_k H h)
  rw [h.2.2.1] at this
  exact this
theorem hs_tick (H : TX T E) (h : MS T E b s) : EV (d + 9) 231 0 [.ref 285, .ref 1000015, .null, .null] [] (q_h L xs s O c) = some (.inl (some (.int (q_I (q_b (thg T E b = 1 ∧ tel T E b = 18))))), q_h L xs (q_u s 285 11 (if thg T E b = 1 ∧ tel T E b = 18 then tend T E b else b)) O c) := by
  have := mm_has_tick (d := d) (L := L) (xs := xs) (O := O) (c := c) h.1 H.2.1 H.2.2 rfl h.2.2.2.1 (MS_k H h)
  rw [h.2.2.1] at this
  exact this
theorem hs_and (H : TX T E) (h : MS T E b s) : EV (d + 9) 231 0 [.ref 285, .ref 1000016, .null, .null] [] (q_h L xs s O c) = some (.inl (some (.int (q_I (q_b (thg T E b = 1 ∧ tel T E b = 7))))), q_h L xs (q_u s 285 11 (if thg T E b = 1 ∧ tel T E b = 7 then tend T E b else b)) O c) := by
  have := mm_has_and (d := d) (L := L) (xs := xs) (O := O) (c := c) h.1 H.2.1 H.2.2 rfl h.2.2.2.1 (MS_k H h)
  rw [h.2.2.1] at this
  exact this
theorem hs_or (H : TX T E) (h : MS T E b s) : EV (d + 9) 231 0 [.ref 285, .ref 1000017, .null, .null] [] (q_h L xs s O c) = some (.inl (some (.int (q_I (q_b (thg T E b = 1 ∧ tel T E b = 6))))), q_h L xs (q_u s 285 11 (if thg T E b = 1 ∧ tel T E b = 6 then tend T E b else b)) O c) := by
  have := mm_has_or (d := d) (L := L) (xs := xs) (O := O) (c := c) h.1 H.2.1 H.2.2 rfl h.2.2.2.1 (MS_k H h)
  rw [h.2.2.1] at this
  exact this
theorem hs_put (H : TX T E) (h : MS T E b s) : EV (d + 9) 231 0 [.ref 285, .ref 1000018, .null, .null] [] (q_h L xs s O c) = some (.inl (some (.int (q_I (q_b (thg T E b = 1 ∧ tel T E b = 0))))), q_h L xs (q_u s 285 11 (if thg T E b = 1 ∧ tel T E b = 0 then tend T E b else b)) O c) := by
  have := mm_has_put (d := d) (L := L) (xs := xs) (O := O) (c := c) h.1 H.2.1 H.2.2 rfl h.2.2.2.1 (MS_k H h)
  rw [h.2.2.1] at this
  exact this
theorem hs_drop (H : TX T E) (h : MS T E b s) : EV (d + 9) 231 0 [.ref 285, .ref 1000019, .null, .null] [] (q_h L xs s O c) = some (.inl (some (.int (q_I (q_b (thg T E b = 1 ∧ tel T E b = 1))))), q_h L xs (q_u s 285 11 (if thg T E b = 1 ∧ tel T E b = 1 then tend T E b else b)) O c) := by
  have := mm_has_drop (d := d) (L := L) (xs := xs) (O := O) (c := c) h.1 H.2.1 H.2.2 rfl h.2.2.2.1 (MS_k H h)
  rw [h.2.2.1] at this
  exact this
end MCU
