/-! WHAT THE LAW SAYS OF A WRITE, of both -/
theorem Gd_codes {F : Int → Int} {l : List Int} {v : Int} {m : Nat} (h : Gd F l v m) : ∀ x, x ∈ l → 0 ≤ x ∧ x ≤ 5000 := by
  induction h using Gd_ind with
  | num n h0 h1 => intro x hx; simp at hx; omega
  | fact k h0 h1 => intro x hx; simp at hx; omega
  | hd => intro x hx; simp at hx; omega
  | sl => intro x hx; simp at hx; omega
  | ev => intro x hx; simp at hx; omega
  | nt h hv ih =>
    intro x hx
    rw [List.mem_append] at hx
    rcases hx with hx | hx
    · exact ih x hx
    · simp at hx; omega
  | add h1 h2 _ _ ih1 ih2 =>
    intro x hx
    rw [List.mem_append, List.mem_append] at hx
    rcases hx with (hx | hx) | hx
    · exact ih1 x hx
    · exact ih2 x hx
    · simp at hx; omega
  | le h1 h2 _ _ ih1 ih2 =>
    intro x hx
    rw [List.mem_append, List.mem_append] at hx
    rcases hx with (hx | hx) | hx
    · exact ih1 x hx
    · exact ih2 x hx
    · simp at hx; omega
  | mo h1 h2 _ _ ih1 ih2 =>
    intro x hx
    rw [List.mem_append, List.mem_append] at hx
    rcases hx with (hx | hx) | hx
    · exact ih1 x hx
    · exact ih2 x hx
    · simp at hx; omega
  | an h1 h2 _ _ _ _ ih1 ih2 =>
    intro x hx
    rw [List.mem_append, List.mem_append] at hx
    rcases hx with (hx | hx) | hx
    · exact ih1 x hx
    · exact ih2 x hx
    · simp at hx; omega
  | orr h1 h2 _ _ _ _ ih1 ih2 =>
    intro x hx
    rw [List.mem_append, List.mem_append] at hx
    rcases hx with (hx | hx) | hx
    · exact ih1 x hx
    · exact ih2 x hx
    · simp at hx; omega
/-- codes say one thing alone -/
theorem Gd_fun {F : Int → Int} {l : List Int} {v v' : Int} {m m' : Nat} (hR : Rg F) (h : Gd F l v m) (h' : Gd F l v' m') (hl : l.length ≤ 400) (hm : m ≤ 32) (hm' : m' ≤ 32) (hv : B01 v) (hv' : B01 v') : v = v' := by
  let s : Nat → Int → Int32 := fun k z => if k = 260 then q_I (F z) else if k = 53 then q_I (l.getD z.toNat 0) else 0
  have gf : ∀ k, 0 ≤ k → k < 7 → q_g s 260 k = F k := fun k k0 k1 => by
    have := hR k k0 k1
    show q_sg (F k) = F k
    exact q_sg_id (by omega) (by omega)
  have gc : ∀ k : Nat, k < l.length → q_g s 53 (0 + k) = l.getD k 0 := fun k hk => by
    show q_sg (l.getD ((0 : Int) + k).toNat 0) = _
    rw [show ((0 : Int) + (k : Int)).toNat = k by omega]
    have := Gd_codes h (l.getD k 0) (by
      rw [List.getD_eq_getElem?_getD, List.getElem?_eq_getElem hk]
      exact List.getElem_mem hk)
    exact q_sg_id (by omega) (by omega)
  obtain ⟨t, e, -⟩ := cc_holds (d := 0) (L := 0) (xs := fun _ => 0) (O := fun _ => 0) (c := (false, 0, 0)) (s := s) (p := 0) hR gf gc (by omega) (by omega) h hm hv
  obtain ⟨t', e', -⟩ := cc_holds (d := 0) (L := 0) (xs := fun _ => 0) (O := fun _ => 0) (c := (false, 0, 0)) (s := s) (p := 0) hR gf gc (by omega) (by omega) h' hm' hv'
  rw [e] at e'
  have e2 := congrArg Prod.fst (Option.some.inj e')
  have e3 : q_I v = q_I v' := by simpa using e2
  have e4 : q_sg v = q_sg v' := congrArg Int32.toInt e3
  rcases hv with x | x <;> rcases hv' with x' | x' <;> subst x <;> subst x' <;> first | rfl | exact absurd e4 (by decide)
theorem fl_le (ls : List (Int × Int × List Int)) {k : Nat} (hk : k < ls.length) : (ls.getD k (0, 0, [])).2.2.length ≤ (fl ls).length := by
  have h1 := fl_split ls (k + 1)
  have h2 := fl_take ls k hk
  have : (fl ls).length = (fl (ls.take k)).length + (ls.getD k (0, 0, [])).2.2.length + (fl (ls.drop (k + 1))).length := by
    rw [h1, List.length_append, h2, List.length_append]
  omega
theorem EvL_fun {F : Int → Int} {ls : List (Int × Int × List Int)} {vs vs' : Nat → Int} (hR : Rg F) (hl : (fl ls).length ≤ 400) (h : EvL F ls vs) (h' : EvL F ls vs') : ∀ k, k < ls.length → vs k = vs' k := fun k hk => by
  obtain ⟨-, a2, a3⟩ := h k hk
  obtain ⟨-, b2, b3⟩ := h' k hk
  have fle := fl_le ls hk
  rcases a3 with ⟨e1, e2⟩ | ⟨m, m1, m2⟩
  · rcases b3 with ⟨e3, e4⟩ | ⟨n, n1, n2⟩
    · rw [e2, e4]
    · rw [e1] at n2
      have := (Gd_rg hR n2).2.2
      simp at this
  · rcases b3 with ⟨e3, e4⟩ | ⟨n, n1, n2⟩
    · rw [e3] at m2
      have := (Gd_rg hR m2).2.2
      simp at this
    · exact Gd_fun hR m2 n2 (by omega) m1 n1 a2 b2
theorem tt_fun {ls : List (Int × Int × List Int)} {vs vs' : Nat → Int} {w : Int} (h : ∀ k, k < ls.length → vs k = vs' k) : ∀ k : Nat, k ≤ ls.length → tt ls vs w k = tt ls vs' w k
  | 0, _ => rfl
  | k + 1, hk => by
    unfold tt
    rw [tt_fun h k (by omega), h k (by omega)]
/-- what the lines say of facts -/
noncomputable def lvs (F : Int → Int) (ls : List (Int × Int × List Int)) : Nat → Int := by
  classical exact if h : ∃ vs, EvL F ls vs then Classical.choose h else fun _ => 0
theorem lvs_ok {F : Int → Int} {ls : List (Int × Int × List Int)} {vs : Nat → Int} (h : EvL F ls vs) : EvL F ls (lvs F ls) := by
  unfold lvs
  have h' : ∃ vs, EvL F ls vs := ⟨vs, h⟩
  rw [dif_pos h']
  exact Classical.choose_spec h'
/-- any law that can be read says something -/
theorem lvs_ex {T F : Int → Int} {E : Int} {ls : List (Int × Int × List Int)} (H : TX T E) (hR : Rg F) (h : lAll T E = .inr ls) : EvL F ls (lvs F ls) := by
  let s : Nat → Int → Int32 := fun k z => if k = 285 then (if z = 10 then q_I E else if z = 9 ∨ z = 12 then q_I (-1) else 0) else if k = 290 then q_I (T z) else if k = 291 then q_I (F z) else 0
  have hE := H.1
  have hE1 := H.2.1
  have gF : Fc F s := fun k k0 k1 => by
    have := hR k k0 k1
    show q_sg (F k) = F k
    exact q_sg_id (by omega) (by omega)
  have g11 : q_g s 285 11 = 0 := rfl
  have ms : MS T E (bs T E 0) s := by
    refine ⟨⟨?_, Or.inl ⟨rfl, fun j j0 j1 => ?_⟩⟩, rfl, by rw [g11]; rfl, by rw [g11]; omega, by rw [g11]; exact hE⟩
    · show q_sg E = E
      exact q_sg_id (by omega) (by omega)
    · have := H.2.2 j j0 j1
      show q_sg (T j) = T j
      exact q_sg_id (by omega) (by omega)
  obtain ⟨-, r⟩ := mm_reads1 (d := 0) (L := 0) (xs := fun _ => 0) (O := fun _ => 0) (c := (false, 0, 0)) H gF rfl ms
  obtain ⟨t, vs, -, -, ev, -⟩ := r ls h
  exact lvs_ok (EvE_L hR ev)
/-- the sum of a word's numbers -/
noncomputable def LTot (m F : Int → Int) (w : Int) : Int := if m 1 = -1 then 0 else match lAll (LT m) (m 2) with
  | .inl _ => 0
  | .inr ls => tt ls (lvs F ls) w ls.length
section ASK
variable {d L : Nat} {xs : Nat → Int32} {s t u : Nat → Int → Int32} {O : Nat → Int64} {c : Bool × Nat × Nat} {b : Int} {m pl F : Int → Int}
theorem LT_TX (h0 : 0 ≤ m 2) (h1 : m 2 ≤ 400) (h : ∀ j, 0 ≤ j → j < m 2 → 0 ≤ m (1049 + j) ∧ m (1049 + j) ≤ 255) : TX (LT m) (m 2) := ⟨h0, h1, fun j j0 j1 => by
  unfold LT
  rw [if_pos ⟨j0, j1⟩]
  exact h j j0 j1⟩
theorem LTot_rg {g lw ln le cd : Int → Int} {w : Int} (hL : LawP m g lw ln le cd) (hR : Rg F) : 0 ≤ LTot m F w ∧ LTot m F w ≤ 1188 := by
  unfold LTot
  rcases hL with ⟨h1, h2⟩ | ⟨h1, h2, h3, ls, h4, h5, h6⟩
  · rw [if_pos h1]
    omega
  · rw [if_neg (by omega), h4]
    have := tt_rg (w := w) (lvs_ex (LT_TX h1 h2 h3) hR h4) ls.length (Nat.le_refl _)
    have := h6.2.1
    show 0 ≤ tt ls (lvs F ls) w ls.length ∧ tt ls (lvs F ls) w ls.length ≤ 1188
    omega
theorem cc_lTot {w : Int} (hL : LawP m (q_g s 49) (q_g s 50) (q_g s 51) (q_g s 52) (q_g s 53)) (hR : Rg F) (hf : ∀ k, 0 ≤ k → k < 7 → q_g s 260 k = F k) (w0 : 0 ≤ w) (w1 : w < 100) : ∃ t, EV (d + 3) 72 0 [.ref 49, .int (q_I (w)), .ref 260, .null, .null, .null] [] (q_h L xs s O c) = some (.inl (some (.int (q_I (LTot m F w)))), q_h L xs (t) O c) ∧ ∀ k z, k ≠ 54 → t k z = s k z := by
  unfold LTot
  rcases hL with ⟨h1, h2⟩ | ⟨h1, h2, h3, ls, h4, h5, h6⟩
  · rw [if_pos h1]
    exact ⟨s, cc_totalOf0 h2, fun _ _ _ => rfl⟩
  · rw [if_neg (by omega), h4]
    exact cc_totalOf (vs := lvs F ls) h6 hR hf (lvs_ex (LT_TX h1 h2 h3) hR h4) w0 w1
/-- the facts of a write to page p -/
def fcs (m pl : Int → Int) (p : Int) : Int → Int := fun k => if k = 0 then p else if k = 1 then (if p < 2 then 3 else pl (16 * p) - 1) else if k = 2 then q_rm (pg m p 2) 100 else if k = 3 then (if p < 2 then 0 else pl (16 * p + 1)) else if k = 4 then q_rm (hc m 0 + 1) 100 else if k = 5 then OM m else if k = 6 then q_rm (m 5) 100 else 0
def clp (x : Int) : Int := if x < 0 then 0 else if 100 < x then 100 else x
/-- the class's page p will be written so -/
def OwnP (pl : Int → Int) (p : Int) (s : Nat → Int → Int32) : Prop := (0 ≤ q_g s 254 p ∧ q_g s 254 p < 176 ∧ q_g s 243 (q_g s 254 p) = pl (16 * p) ∧ (pl (16 * p) = 1 ∨ pl (16 * p) = 2) ∧ q_g s 244 (q_g s 254 p) = pl (16 * p + 1)) ∨ (176 ≤ q_g s 254 p ∧ q_g s 254 p ≤ 300 ∧ pl (16 * p) = 3 ∧ 0 ≤ q_g s 241 8 ∧ q_g s 241 8 ≤ 300 ∧ pl (16 * p + 1) = (if q_g s 241 8 - 6 * (q_g s 254 p - 176) < 0 then 0 else if 6 < q_g s 241 8 - 6 * (q_g s 254 p - 176) then 6 else q_g s 241 8 - 6 * (q_g s 254 p - 176)))
theorem cc_kindOfWrite {p : Int} (p0 : 0 ≤ p) (p1 : p < 48) (h : p < 2 ∨ OwnP pl p s) : EV (d) 95 0 [.ref 241, .int (q_I (p)), .null] [] (q_h L xs s O c) = some (.inl (some (.int (q_I (if p < 2 then 3 else pl (16 * p) - 1)))), q_h L xs (s) O c) := by
  by_cases c : p < 2
  · rw [if_pos c]
    simp (disch := first | omega | exact q_b_01 _) only [↓reduceIte, q_bk0, q_bk1, q_bk2, q_sg_b, q_b_0, q_b_n0, q_b_1, q_b_n1, q_b_T, q_b_F, q_sg_g, q_sg_sg, q_sg_xs, q_sg_id, q_gu_ne, q_gu_eq, q_g_fne, q_g_cpe, q_w_f, q_v_f, q_u_f, q_fn_f, q_cp_f, q_sg_pg, q_sg_hc, q_lt_t, q_lt_f, q_le_t, q_le_f, q_eq_t, q_eq_f, ne_eq, eq_self, Bool.false_eq_true, Bool.true_eq_false, not_true_eq_false, not_false_eq_true, true_and, and_true, false_and, and_false, true_or, or_true, false_or, or_false, if_true, if_false, Int.reduceAdd, Int.reduceMul, Int.reduceSub, Int.reduceNeg, R_95_0, R_95_5, R_95_7, R_95_13, R_95_18, R_95_25, R_95_27, R_95_36, R_95_40, R_95_44, R_95_45]
  · rw [if_neg c]
    rcases h with h | ⟨h1, h2, h3, h4, h5⟩ | ⟨h1, h2, h3, h4, h5, h6⟩
    · omega
    · rcases h4 with e | e
      · simp (disch := first | omega | exact q_b_01 _) only [↓reduceIte, q_bk0, q_bk1, q_bk2, q_sg_b, q_b_0, q_b_n0, q_b_1, q_b_n1, q_b_T, q_b_F, q_sg_g, q_sg_sg, q_sg_xs, q_sg_id, q_gu_ne, q_gu_eq, q_g_fne, q_g_cpe, q_w_f, q_v_f, q_u_f, q_fn_f, q_cp_f, q_sg_pg, q_sg_hc, q_lt_t, q_lt_f, q_le_t, q_le_f, q_eq_t, q_eq_f, ne_eq, eq_self, Bool.false_eq_true, Bool.true_eq_false, not_true_eq_false, not_false_eq_true, true_and, and_true, false_and, and_false, true_or, or_true, false_or, or_false, if_true, if_false, Int.reduceAdd, Int.reduceMul, Int.reduceSub, Int.reduceNeg, h3, e, R_95_0, R_95_5, R_95_7, R_95_13, R_95_18, R_95_25, R_95_27, R_95_36, R_95_40, R_95_44, R_95_45]
      · simp (disch := first | omega | exact q_b_01 _) only [↓reduceIte, q_bk0, q_bk1, q_bk2, q_sg_b, q_b_0, q_b_n0, q_b_1, q_b_n1, q_b_T, q_b_F, q_sg_g, q_sg_sg, q_sg_xs, q_sg_id, q_gu_ne, q_gu_eq, q_g_fne, q_g_cpe, q_w_f, q_v_f, q_u_f, q_fn_f, q_cp_f, q_sg_pg, q_sg_hc, q_lt_t, q_lt_f, q_le_t, q_le_f, q_eq_t, q_eq_f, ne_eq, eq_self, Bool.false_eq_true, Bool.true_eq_false, not_true_eq_false, not_false_eq_true, true_and, and_true, false_and, and_false, true_or, or_true, false_or, or_false, if_true, if_false, Int.reduceAdd, Int.reduceMul, Int.reduceSub, Int.reduceNeg, h3, e, R_95_0, R_95_5, R_95_7, R_95_13, R_95_18, R_95_25, R_95_27, R_95_36, R_95_40, R_95_44, R_95_45]
    · rw [h3]
      simp (disch := first | omega | exact q_b_01 _) only [↓reduceIte, q_bk0, q_bk1, q_bk2, q_sg_b, q_b_0, q_b_n0, q_b_1, q_b_n1, q_b_T, q_b_F, q_sg_g, q_sg_sg, q_sg_xs, q_sg_id, q_gu_ne, q_gu_eq, q_g_fne, q_g_cpe, q_w_f, q_v_f, q_u_f, q_fn_f, q_cp_f, q_sg_pg, q_sg_hc, q_lt_t, q_lt_f, q_le_t, q_le_f, q_eq_t, q_eq_f, ne_eq, eq_self, Bool.false_eq_true, Bool.true_eq_false, not_true_eq_false, not_false_eq_true, true_and, and_true, false_and, and_false, true_or, or_true, false_or, or_false, if_true, if_false, Int.reduceAdd, Int.reduceMul, Int.reduceSub, Int.reduceNeg, R_95_0, R_95_5, R_95_7, R_95_13, R_95_18, R_95_25, R_95_27, R_95_36, R_95_40, R_95_44, R_95_45]
theorem cc_rowsOfWrite {p : Int} (p0 : 0 ≤ p) (p1 : p < 48) (h : p < 2 ∨ OwnP pl p s) : EV (d + 1) 96 0 [.ref 241, .int (q_I (p)), .null] [] (q_h L xs s O c) = some (.inl (some (.int (q_I (if p < 2 then 0 else pl (16 * p + 1))))), q_h L xs (s) O c) := by
  by_cases c : p < 2
  · rw [if_pos c]
    simp (disch := first | omega | exact q_b_01 _) only [↓reduceIte, q_bk0, q_bk1, q_bk2, q_sg_b, q_b_0, q_b_n0, q_b_1, q_b_n1, q_b_T, q_b_F, q_sg_g, q_sg_sg, q_sg_xs, q_sg_id, q_gu_ne, q_gu_eq, q_g_fne, q_g_cpe, q_w_f, q_v_f, q_u_f, q_fn_f, q_cp_f, q_sg_pg, q_sg_hc, q_lt_t, q_lt_f, q_le_t, q_le_f, q_eq_t, q_eq_f, ne_eq, eq_self, Bool.false_eq_true, Bool.true_eq_false, not_true_eq_false, not_false_eq_true, true_and, and_true, false_and, and_false, true_or, or_true, false_or, or_false, if_true, if_false, Int.reduceAdd, Int.reduceMul, Int.reduceSub, Int.reduceNeg, R_96_0, R_96_5, R_96_7, R_96_13, R_96_21, R_96_43, R_96_44, R_96_48, R_96_52, R_96_61, C_96_37, C_96_40]
  · rw [if_neg c]
    rcases h with h | ⟨h1, h2, h3, h4, h5⟩ | ⟨h1, h2, h3, h4, h5, h6⟩
    · omega
    · simp (disch := first | omega | exact q_b_01 _) only [↓reduceIte, q_bk0, q_bk1, q_bk2, q_sg_b, q_b_0, q_b_n0, q_b_1, q_b_n1, q_b_T, q_b_F, q_sg_g, q_sg_sg, q_sg_xs, q_sg_id, q_gu_ne, q_gu_eq, q_g_fne, q_g_cpe, q_w_f, q_v_f, q_u_f, q_fn_f, q_cp_f, q_sg_pg, q_sg_hc, q_lt_t, q_lt_f, q_le_t, q_le_f, q_eq_t, q_eq_f, ne_eq, eq_self, Bool.false_eq_true, Bool.true_eq_false, not_true_eq_false, not_false_eq_true, true_and, and_true, false_and, and_false, true_or, or_true, false_or, or_false, if_true, if_false, Int.reduceAdd, Int.reduceMul, Int.reduceSub, Int.reduceNeg, h5, R_96_0, R_96_5, R_96_7, R_96_13, R_96_21, R_96_43, R_96_44, R_96_48, R_96_52, R_96_61, C_96_37, C_96_40]
    · rw [h6]
      simp (disch := first | omega | exact q_b_01 _) only [↓reduceIte, q_bk0, q_bk1, q_bk2, q_sg_b, q_b_0, q_b_n0, q_b_1, q_b_n1, q_b_T, q_b_F, q_sg_g, q_sg_sg, q_sg_xs, q_sg_id, q_gu_ne, q_gu_eq, q_g_fne, q_g_cpe, q_w_f, q_v_f, q_u_f, q_fn_f, q_cp_f, q_sg_pg, q_sg_hc, q_lt_t, q_lt_f, q_le_t, q_le_f, q_eq_t, q_eq_f, ne_eq, eq_self, Bool.false_eq_true, Bool.true_eq_false, not_true_eq_false, not_false_eq_true, true_and, and_true, false_and, and_false, true_or, or_true, false_or, or_false, if_true, if_false, Int.reduceAdd, Int.reduceMul, Int.reduceSub, Int.reduceNeg, jj_min, jj_max, R_96_0, R_96_5, R_96_7, R_96_13, R_96_21, R_96_43, R_96_44, R_96_48, R_96_52, R_96_61, C_96_37, C_96_40]
      generalize q_g s 241 8 - 6 * (q_g s 254 p - 176) = x at *
      by_cases a1 : x < 0
      · rw [if_pos a1]
        simp (disch := first | omega | exact q_b_01 _) only [↓reduceIte, q_bk0, q_bk1, q_bk2, q_sg_b, q_b_0, q_b_n0, q_b_1, q_b_n1, q_b_T, q_b_F, q_sg_g, q_sg_sg, q_sg_xs, q_sg_id, q_gu_ne, q_gu_eq, q_g_fne, q_g_cpe, q_w_f, q_v_f, q_u_f, q_fn_f, q_cp_f, q_sg_pg, q_sg_hc, q_lt_t, q_lt_f, q_le_t, q_le_f, q_eq_t, q_eq_f, ne_eq, eq_self, Bool.false_eq_true, Bool.true_eq_false, not_true_eq_false, not_false_eq_true, true_and, and_true, false_and, and_false, true_or, or_true, false_or, or_false, if_true, if_false, Int.reduceAdd, Int.reduceMul, Int.reduceSub, Int.reduceNeg]
      · rw [if_neg a1]
        by_cases a2 : 6 < x
        · rw [if_pos a2]
          simp (disch := first | omega | exact q_b_01 _) only [↓reduceIte, q_bk0, q_bk1, q_bk2, q_sg_b, q_b_0, q_b_n0, q_b_1, q_b_n1, q_b_T, q_b_F, q_sg_g, q_sg_sg, q_sg_xs, q_sg_id, q_gu_ne, q_gu_eq, q_g_fne, q_g_cpe, q_w_f, q_v_f, q_u_f, q_fn_f, q_cp_f, q_sg_pg, q_sg_hc, q_lt_t, q_lt_f, q_le_t, q_le_f, q_eq_t, q_eq_f, ne_eq, eq_self, Bool.false_eq_true, Bool.true_eq_false, not_true_eq_false, not_false_eq_true, true_and, and_true, false_and, and_false, true_or, or_true, false_or, or_false, if_true, if_false, Int.reduceAdd, Int.reduceMul, Int.reduceSub, Int.reduceNeg]
        · rw [if_neg a2]
          by_cases a3 : x = 6
          · subst a3
            simp (disch := first | omega | exact q_b_01 _) only [↓reduceIte, q_bk0, q_bk1, q_bk2, q_sg_b, q_b_0, q_b_n0, q_b_1, q_b_n1, q_b_T, q_b_F, q_sg_g, q_sg_sg, q_sg_xs, q_sg_id, q_gu_ne, q_gu_eq, q_g_fne, q_g_cpe, q_w_f, q_v_f, q_u_f, q_fn_f, q_cp_f, q_sg_pg, q_sg_hc, q_lt_t, q_lt_f, q_le_t, q_le_f, q_eq_t, q_eq_f, ne_eq, eq_self, Bool.false_eq_true, Bool.true_eq_false, not_true_eq_false, not_false_eq_true, true_and, and_true, false_and, and_false, true_or, or_true, false_or, or_false, if_true, if_false, Int.reduceAdd, Int.reduceMul, Int.reduceSub, Int.reduceNeg]
          · by_cases a4 : x = 0
            · subst a4
              simp (disch := first | omega | exact q_b_01 _) only [↓reduceIte, q_bk0, q_bk1, q_bk2, q_sg_b, q_b_0, q_b_n0, q_b_1, q_b_n1, q_b_T, q_b_F, q_sg_g, q_sg_sg, q_sg_xs, q_sg_id, q_gu_ne, q_gu_eq, q_g_fne, q_g_cpe, q_w_f, q_v_f, q_u_f, q_fn_f, q_cp_f, q_sg_pg, q_sg_hc, q_lt_t, q_lt_f, q_le_t, q_le_f, q_eq_t, q_eq_f, ne_eq, eq_self, Bool.false_eq_true, Bool.true_eq_false, not_true_eq_false, not_false_eq_true, true_and, and_true, false_and, and_false, true_or, or_true, false_or, or_false, if_true, if_false, Int.reduceAdd, Int.reduceMul, Int.reduceSub, Int.reduceNeg]
            · simp (disch := first | omega | exact q_b_01 _) only [↓reduceIte, q_bk0, q_bk1, q_bk2, q_sg_b, q_b_0, q_b_n0, q_b_1, q_b_n1, q_b_T, q_b_F, q_sg_g, q_sg_sg, q_sg_xs, q_sg_id, q_gu_ne, q_gu_eq, q_g_fne, q_g_cpe, q_w_f, q_v_f, q_u_f, q_fn_f, q_cp_f, q_sg_pg, q_sg_hc, q_lt_t, q_lt_f, q_le_t, q_le_f, q_eq_t, q_eq_f, ne_eq, eq_self, Bool.false_eq_true, Bool.true_eq_false, not_true_eq_false, not_false_eq_true, true_and, and_true, false_and, and_false, true_or, or_true, false_or, or_false, if_true, if_false, Int.reduceAdd, Int.reduceMul, Int.reduceSub, Int.reduceNeg]
end ASK
