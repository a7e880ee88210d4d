/-! the list of free pages, of both -/
theorem nodup_len : ∀ (n : Nat) (l : List Int), l.Nodup → (∀ x, x ∈ l → 0 ≤ x ∧ x < n) → l.length ≤ n
  | 0, l, _, h => by
    cases l with
    | nil => exact Nat.le_refl 0
    | cons a r =>
      have := h a (List.mem_cons_self ..)
      omega
  | n + 1, l, hn, h => by
    by_cases hm : (n : Int) ∈ l
    · have := nodup_len n (l.erase (n : Int)) (hn.erase _) (fun x hx => by
        have h1 := h x (List.mem_of_mem_erase hx)
        have h2 : x ≠ n := ((List.Nodup.mem_erase_iff hn).mp hx).1
        omega)
      rw [List.length_erase_of_mem hm] at this
      omega
    · have := nodup_len n l hn (fun x hx => by
        have h1 := h x hx
        have h2 : x ≠ n := fun e => hm (e ▸ hx)
        omega)
      omega
/-- the slips, from a page on -/
def chx (m : Int → Int) : Nat → Int → List Int
  | 0, _ => []
  | n + 1, x => if x = -1 then [] else x :: chx m n (pg m x 3)
theorem chx_eq {m : Int → Int} : ∀ (sl : List Int) (n : Nat) (x : Int), Chn m sl x → sl.length ≤ n → chx m n x = sl
  | [], n, x, h, _ => by
    have e : x = -1 := h
    cases n
    · rfl
    · show (if x = -1 then [] else _) = _
      rw [if_pos e]
  | y :: r, n, x, h, hl => by
    obtain ⟨h1, h2, h3, h4, h5⟩ := h
    subst h1
    cases n with
    | zero => exact absurd hl (by simp)
    | succ n =>
      show (if x = -1 then [] else _) = _
      rw [if_neg (by omega), chx_eq r n _ h5 (by simpa using hl)]
def SLs (m : Int → Int) : List Int := chx m 48 (hc m 2)
def FRm (m : Int → Int) : Int → Int32 := FRl m (SLs m) (fun _ => q_I (-1))
def SLm (m : Int → Int) : Int → Int32 := SLl (SLs m) (fun _ => q_I 0)
def LM (m : Int → Int) : Int := q_it (fun r l => if m (9 + 2 * r) = -1 then l else if m (9 + 2 * r) < l then m (9 + 2 * r) else l) 4 (hc m 0)
/-- what is wanted of the list -/
def LsOk (m : Int → Int) : Prop := Chn m (SLs m) (hc m 2) ∧ (SLs m).length ≤ 46 ∧ LsI m (SLs m) ∧ (SLs m).Nodup ∧ ∀ p n, Lst m (SLs m) p n → 2 ≤ p ∧ p < hc m 3 ∧ 0 ≤ n ∧ n ≤ hc m 0 ∧ p ∉ SLs m
theorem Chn_mem {m : Int → Int} : ∀ (sl : List Int) (x : Int), Chn m sl x → ∀ y, y ∈ sl → 2 ≤ y ∧ y < 48 ∧ pg m y 0 = 3
  | [], _, _, y, hy => absurd hy (List.not_mem_nil)
  | a :: r, x, h, y, hy => by
    obtain ⟨h1, h2, h3, h4, h5⟩ := h
    rcases List.mem_cons.mp hy with e | e
    · subst e
      exact ⟨h2, h3, h4⟩
    · exact Chn_mem r _ h5 y e
theorem inv_ls {m : Int → Int} {b : Int} (I : Inv m b) (hb : b < 2147483648) : LsOk m := by
  obtain ⟨⟨_, P, _, ⟨h0, h1, h2, h48⟩, Lv, sl, T, ⟨c1, c2, c3, c4, c5⟩, _, Rd⟩, _, _, _⟩ := I
  have hm := Chn_mem sl _ c1
  have hl : sl.length ≤ 46 := by
    have := nodup_len 46 (sl.map (fun x => x - 2)) (List.Pairwise.map _ (fun a b hab => fun e => hab (by omega)) c2) (fun x hx => by
      obtain ⟨y, hy, e⟩ := List.mem_map.mp hx
      have := hm y hy
      omega)
    simpa using this
  have e : SLs m = sl := chx_eq sl 48 _ c1 (by omega)
  unfold LsOk
  rw [e]
  refine ⟨c1, hl, ⟨fun y hy => ?_, c5⟩, c2, c4⟩
  have my := hm y hy
  have py := P y my.1 my.2.1
  refine ⟨⟨py.2.1, py.2.2.1⟩, fun k k0 k1 => ?_⟩
  have := c4 (pg m y (4 + k)) (pg m y (10 + k)) ⟨y, hy, k, k0, k1, rfl, rfl⟩
  omega
section LS
variable {d L : Nat} {xs : Nat → Int32} {s : Nat → Int → Int32} {O : Nat → Int64} {c : Bool × Nat × Nat} {f : Nat} {m : Int → Int}
theorem LsI_tl {y : Int} {r : List Int} (h : LsI m (y :: r)) : LsI m r := ⟨fun a ha => h.1 a (List.mem_cons_of_mem _ ha), fun a b k k' ha hb => h.2 a b k k' (List.mem_cons_of_mem _ ha) (List.mem_cons_of_mem _ hb)⟩
theorem ls_tl {y : Int} {r : List Int} {F : Int → Int32} (h : LsI m (y :: r)) (hn : (y :: r).Nodup) (hF : ∀ a, a ∈ y :: r → ∀ k, 0 ≤ k → k < pg m a 1 → F (pg m a (4 + k)) = q_I (-1)) : ∀ a, a ∈ r → ∀ k, 0 ≤ k → k < pg m a 1 → VF m 0 y F (pg m a (4 + k)) = q_I (-1) := by
  intro a ha k k0 k1
  rw [vf0_ne, hF a (List.mem_cons_of_mem _ ha) k k0 k1]
  intro i i0 i1 e
  have := (h.2 y a i k (List.mem_cons_self ..) (List.mem_cons_of_mem _ ha) i0 i1 k0 k1 e).1
  exact (List.nodup_cons.mp hn).1 (this ▸ ha)
theorem cc_readL (hf : isF f) (H : RB m s 7) {lm : Int} : ∀ (sl : List Int) {x i : Int} (F S : Int → Int32), Chn m sl x → LsI m sl → sl.Nodup → 0 ≤ i → i + sl.length ≤ 47 → (∀ a, a ∈ sl → ∀ k, 0 ≤ k → k < pg m a 1 → F (pg m a (4 + k)) = q_I (-1)) → EV (d + 2) 59 84 [.ref f, .ref 7, .ref 8, .int (q_I (x)), .int (q_I (i))] [] (q_h L xs (fm s f F S (cn48 F) lm) O c) = some (.inl none, q_h L xs (fm s f (FRl m sl F) (SLl sl S) (cn48 (FRl m sl F)) lm) O c)
  | [], x, i, F, S, hC, _, _, i0, i1, _ => by
    have e : x = -1 := hC
    subst e
    have hfr := fl_rg hf
    rw [R_59_84]
    simp only [List.length_nil] at i1
    simp (disch := first | omega | exact q_b_01 _) only [↓reduceIte, q_bk0, q_bk1, q_bk2, q_sg_b, q_b_0, q_b_n0, q_b_1, q_b_n1, q_b_T, q_b_F, q_sg_g, q_sg_sg, q_sg_xs, q_sg_id, q_gu_ne, q_gu_eq, q_g_fne, q_g_cpe, q_w_f, q_v_f, q_u_f, q_fn_f, q_cp_f, q_sg_pg, q_sg_hc, q_lt_t, q_lt_f, q_le_t, q_le_f, q_eq_t, q_eq_f, ne_eq, eq_self, Bool.false_eq_true, Bool.true_eq_false, not_true_eq_false, not_false_eq_true, true_and, and_true, false_and, and_false, true_or, or_true, false_or, or_false, if_true, if_false, Int.reduceAdd, Int.reduceMul, Int.reduceSub, Int.reduceNeg, R_59_0, R_59_9, R_59_13, R_59_17, R_59_21, R_59_26, R_59_32, R_59_35, R_59_42, R_59_48, R_59_52, R_59_57, R_59_66, R_59_69, R_59_75, R_59_80, R_59_91, R_59_95, R_59_98, R_59_102, R_59_105, R_59_111, R_59_117, R_59_124, C_59_10, C_59_18, C_59_29, C_59_63, C_59_77, C_59_92, C_59_108, cc_isInner]
    rfl
  | y :: r, x, i, F, S, hC, hI, hN, i0, i1, hF => by
    obtain ⟨h1, h2, h3, h4, h5⟩ := hC
    subst h1
    have hfr := fl_rg hf
    have hp := hI.1 x (List.mem_cons_self ..)
    simp only [List.length_cons] at i1
    have e1 := cc_readSlip (d := d) (L := L) (xs := xs) (O := O) (c := c) hf H (F := F) (S := fun z => if z = x then q_I 1 else S z) (lm := lm) h2 h3 hp.1 hp.2 (fun k k' a1 a2 a3 a4 e => (hI.2 x x k k' (List.mem_cons_self ..) (List.mem_cons_self ..) a1 a2 a3 a4 e).2) (hF x (List.mem_cons_self ..))
    have ih := cc_readL hf H (lm := lm) r (x := pg m x 3) (i := i + 1) (VF m 0 x F) (fun z => if z = x then q_I 1 else S z) h5 (LsI_tl hI) (List.nodup_cons.mp hN).2 (by omega) (by omega) (ls_tl hI hN hF)
    rw [R_59_84]
    simp (disch := first | omega | exact q_b_01 _) only [↓reduceIte, q_bk0, q_bk1, q_bk2, q_sg_b, q_b_0, q_b_n0, q_b_1, q_b_n1, q_b_T, q_b_F, q_sg_g, q_sg_sg, q_sg_xs, q_sg_id, q_gu_ne, q_gu_eq, q_g_fne, q_g_cpe, q_w_f, q_v_f, q_u_f, q_fn_f, q_cp_f, q_sg_pg, q_sg_hc, q_lt_t, q_lt_f, q_le_t, q_le_f, q_eq_t, q_eq_f, ne_eq, eq_self, Bool.false_eq_true, Bool.true_eq_false, not_true_eq_false, not_false_eq_true, true_and, and_true, false_and, and_false, true_or, or_true, false_or, or_false, if_true, if_false, Int.reduceAdd, Int.reduceMul, Int.reduceSub, Int.reduceNeg, R_59_0, R_59_9, R_59_13, R_59_17, R_59_21, R_59_26, R_59_32, R_59_35, R_59_42, R_59_48, R_59_52, R_59_57, R_59_66, R_59_69, R_59_75, R_59_80, R_59_91, R_59_95, R_59_98, R_59_102, R_59_105, R_59_111, R_59_117, R_59_124, C_59_10, C_59_18, C_59_29, C_59_63, C_59_77, C_59_92, C_59_108, cc_isInner, fl_g1 hf, fl_s2 hf, fl_rc hf, fm_f, fm_2, e1, rb_next H, ih]
    rfl
theorem LM_iff (m : Int → Int) (x : Int) : x ≤ LM m ↔ x ≤ hc m 0 ∧ ∀ r, 0 ≤ r → r < 4 → m (9 + 2 * r) ≠ -1 → x ≤ m (9 + 2 * r) := by
  have key : ∀ n : Nat, x ≤ q_it (fun r l => if m (9 + 2 * r) = -1 then l else if m (9 + 2 * r) < l then m (9 + 2 * r) else l) n (hc m 0) ↔ x ≤ hc m 0 ∧ ∀ r : Int, 0 ≤ r → r < n → m (9 + 2 * r) ≠ -1 → x ≤ m (9 + 2 * r) := by
    intro n
    induction n with
    | zero => exact ⟨fun h => ⟨h, fun r a b => absurd b (by omega)⟩, fun h => h.1⟩
    | succ n ih =>
      show x ≤ (if m (9 + 2 * (n : Int)) = -1 then _ else _) ↔ _
      constructor
      · intro h
        have hh : x ≤ q_it (fun r l => if m (9 + 2 * r) = -1 then l else if m (9 + 2 * r) < l then m (9 + 2 * r) else l) n (hc m 0) ∧ (m (9 + 2 * (n : Int)) ≠ -1 → x ≤ m (9 + 2 * (n : Int))) := by
          split at h
          · rename_i e
            exact ⟨h, fun e' => absurd e e'⟩
          · split at h
            · exact ⟨by omega, fun _ => h⟩
            · exact ⟨h, fun _ => by omega⟩
        have := ih.mp hh.1
        refine ⟨this.1, fun r a b e => ?_⟩
        by_cases er : r = n
        · rw [er] at e ⊢
          exact hh.2 e
        · exact this.2 r a (by omega) e
      · rintro ⟨h1, h2⟩
        have := ih.mpr ⟨h1, fun r a b e => h2 r a (by omega) e⟩
        split
        · exact this
        · rename_i e
          have := h2 n (by omega) (by omega) e
          split <;> omega
  exact key 4
theorem cc_free (hf : isF f) (H : RB m s 7) (Hd : HdI m) (Hl : LsOk m) : EV (d + 3) 59 0 [.ref f, .ref 7, .null, .null, .null] [] (q_h L xs s O c) = some (.inl none, q_h L xs (fm s f (FRm m) (SLm m) (cn48 (FRm m)) (LM m)) O c) := by
  have hfr := fl_rg hf
  have c0 : cn48 (fun _ => q_I (-1)) = 0 := by decide
  have hc0 := chc_eq H Hd (w := 0) (by omega) (by omega)
  have hc2 := chc_eq H Hd (w := 2) (by omega) (by omega)
  have r0 : -2147483648 ≤ hc m 0 ∧ hc m 0 < 2147483648 := by
    rw [← hc0]
    exact q_g_rg s 15 _
  have e0 : q_u (q_u (q_v (q_v s (f + 1) 0 ((48 : Nat) : Int) fun _ => q_I (-1)) (f + 2) 0 ((48 : Nat) : Int) fun _ => q_I 0) f 2 0) f 3 (hc m 0) = fm s f (fun _ => q_I (-1)) (fun _ => q_I 0) (cn48 (fun _ => q_I (-1))) (hc m 0) := by rw [c0]; rfl
  simp (disch := first | omega | exact q_b_01 _) only [↓reduceIte, q_bk0, q_bk1, q_bk2, q_sg_b, q_b_0, q_b_n0, q_b_1, q_b_n1, q_b_T, q_b_F, q_sg_g, q_sg_sg, q_sg_xs, q_sg_id, q_gu_ne, q_gu_eq, q_g_fne, q_g_cpe, q_w_f, q_v_f, q_u_f, q_fn_f, q_cp_f, q_sg_pg, q_sg_hc, q_lt_t, q_lt_f, q_le_t, q_le_f, q_eq_t, q_eq_f, ne_eq, eq_self, Bool.false_eq_true, Bool.true_eq_false, not_true_eq_false, not_false_eq_true, true_and, and_true, false_and, and_false, true_or, or_true, false_or, or_false, if_true, if_false, Int.reduceAdd, Int.reduceMul, Int.reduceSub, Int.reduceNeg, R_59_0, R_59_9, R_59_13, R_59_17, R_59_21, R_59_26, R_59_32, R_59_35, R_59_42, R_59_48, R_59_52, R_59_57, R_59_66, R_59_69, R_59_75, R_59_80, R_59_91, R_59_95, R_59_98, R_59_102, R_59_105, R_59_111, R_59_117, R_59_124, C_59_10, C_59_18, C_59_29, C_59_63, C_59_77, C_59_92, C_59_108, fl_g0 hf, fl_g1 hf, fl_p2 hf, fl_p3 hf, jj_fill (fl_A1 hf) (by decide), jj_fill (fl_A2 hf) (by decide), cc_ofTheHead, hc0]
  rw [e0]
  have key := q_itl (fun j lm => EV (d + 3) 59 37 [.ref f, .ref 7, .ref 8, .int (q_I (j)), .null] [] (q_h L xs (fm s f (fun _ => q_I (-1)) (fun _ => q_I 0) (cn48 (fun _ => q_I (-1))) lm) O c)) (fun r l => if m (9 + 2 * r) = -1 then l else if m (9 + 2 * r) < l then m (9 + 2 * r) else l) (fun _ l => -2147483648 ≤ l ∧ l < 2147483648) (hi := 4) (by omega) (fun j lm h1 h2 hl => by
    have hv := rb_rv H h1 h2
    have hg := q_g_rg s 16 j
    rw [hv] at hg
    constructor
    · rw [R_59_37]
      by_cases e : m (9 + 2 * j) = -1
      · simp (disch := first | omega | exact q_b_01 _) only [↓reduceIte, q_bk0, q_bk1, q_bk2, q_sg_b, q_b_0, q_b_n0, q_b_1, q_b_n1, q_b_T, q_b_F, q_sg_g, q_sg_sg, q_sg_xs, q_sg_id, q_gu_ne, q_gu_eq, q_g_fne, q_g_cpe, q_w_f, q_v_f, q_u_f, q_fn_f, q_cp_f, q_sg_pg, q_sg_hc, q_lt_t, q_lt_f, q_le_t, q_le_f, q_eq_t, q_eq_f, ne_eq, eq_self, Bool.false_eq_true, Bool.true_eq_false, not_true_eq_false, not_false_eq_true, true_and, and_true, false_and, and_false, true_or, or_true, false_or, or_false, if_true, if_false, Int.reduceAdd, Int.reduceMul, Int.reduceSub, Int.reduceNeg, e, R_59_0, R_59_9, R_59_13, R_59_17, R_59_21, R_59_26, R_59_32, R_59_35, R_59_42, R_59_48, R_59_52, R_59_57, R_59_66, R_59_69, R_59_75, R_59_80, R_59_91, R_59_95, R_59_98, R_59_102, R_59_105, R_59_111, R_59_117, R_59_124, C_59_10, C_59_18, C_59_29, C_59_63, C_59_77, C_59_92, C_59_108, fm_f, hv]
      · simp (disch := first | omega | exact q_b_01 _) only [↓reduceIte, q_bk0, q_bk1, q_bk2, q_sg_b, q_b_0, q_b_n0, q_b_1, q_b_n1, q_b_T, q_b_F, q_sg_g, q_sg_sg, q_sg_xs, q_sg_id, q_gu_ne, q_gu_eq, q_g_fne, q_g_cpe, q_w_f, q_v_f, q_u_f, q_fn_f, q_cp_f, q_sg_pg, q_sg_hc, q_lt_t, q_lt_f, q_le_t, q_le_f, q_eq_t, q_eq_f, ne_eq, eq_self, Bool.false_eq_true, Bool.true_eq_false, not_true_eq_false, not_false_eq_true, true_and, and_true, false_and, and_false, true_or, or_true, false_or, or_false, if_true, if_false, Int.reduceAdd, Int.reduceMul, Int.reduceSub, Int.reduceNeg, e, R_59_0, R_59_9, R_59_13, R_59_17, R_59_21, R_59_26, R_59_32, R_59_35, R_59_42, R_59_48, R_59_52, R_59_57, R_59_66, R_59_69, R_59_75, R_59_80, R_59_91, R_59_95, R_59_98, R_59_102, R_59_105, R_59_111, R_59_117, R_59_124, C_59_10, C_59_18, C_59_29, C_59_63, C_59_77, C_59_92, C_59_108, fm_f, hv, fl_g3 hf, fl_p3 hf, fm_s, fm_4, jj_min]
    · split
      · exact hl
      · split <;> omega) (t0 := hc m 0) r0
  refine Eq.trans key.1 ?_
  have hL := cc_readL (d := d + 1) (L := L) (xs := xs) (O := O) (c := c) hf H (lm := LM m) (SLs m) (i := 0) (fun _ => q_I (-1)) (fun _ => q_I 0) Hl.1 Hl.2.2.1 Hl.2.2.2.1 (by omega) (by have := Hl.2.1; omega) (fun _ _ _ _ _ => rfl)
  have hL2 : q_it (fun r l => if m (9 + 2 * r) = -1 then l else if m (9 + 2 * r) < l then m (9 + 2 * r) else l) (Int.toNat 4) (hc m 0) = LM m := rfl
  rw [hL2, R_59_37]
  simp (disch := first | omega | exact q_b_01 _) only [↓reduceIte, q_bk0, q_bk1, q_bk2, q_sg_b, q_b_0, q_b_n0, q_b_1, q_b_n1, q_b_T, q_b_F, q_sg_g, q_sg_sg, q_sg_xs, q_sg_id, q_gu_ne, q_gu_eq, q_g_fne, q_g_cpe, q_w_f, q_v_f, q_u_f, q_fn_f, q_cp_f, q_sg_pg, q_sg_hc, q_lt_t, q_lt_f, q_le_t, q_le_f, q_eq_t, q_eq_f, ne_eq, eq_self, Bool.false_eq_true, Bool.true_eq_false, not_true_eq_false, not_false_eq_true, true_and, and_true, false_and, and_false, true_or, or_true, false_or, or_false, if_true, if_false, Int.reduceAdd, Int.reduceMul, Int.reduceSub, Int.reduceNeg, R_59_0, R_59_9, R_59_13, R_59_17, R_59_21, R_59_26, R_59_32, R_59_35, R_59_42, R_59_48, R_59_52, R_59_57, R_59_66, R_59_69, R_59_75, R_59_80, R_59_91, R_59_95, R_59_98, R_59_102, R_59_105, R_59_111, R_59_117, R_59_124, C_59_10, C_59_18, C_59_29, C_59_63, C_59_77, C_59_92, C_59_108, fm_f, cc_ofTheHead, hc2, hL]
  rfl
theorem mm_listsL : ∀ (sl : List Int) {x k : Int} (K : Value) (F : Int → Int32), Chn (q_g s 286) sl x → LsI (q_g s 286) sl → EV (d + 1) 271 32 [.ref 285, .int (q_I (x)), K] [] (q_h L xs (q_v s 303 0 48 F) O c) = some (.inl none, q_h L xs (q_v s 303 0 48 (FRl (q_g s 286) sl F)) O c)
  | [], x, k, K, F, hC, _ => by
    have e : x = -1 := hC
    subst e
    rw [R_271_32]
    simp (disch := first | omega | exact q_b_01 _) only [↓reduceIte, q_bk0, q_bk1, q_bk2, q_sg_b, q_b_0, q_b_n0, q_b_1, q_b_n1, q_b_T, q_b_F, q_sg_g, q_sg_sg, q_sg_xs, q_sg_id, q_gu_ne, q_gu_eq, q_g_fne, q_g_cpe, q_w_f, q_v_f, q_u_f, q_fn_f, q_cp_f, q_sg_pg, q_sg_hc, q_lt_t, q_lt_f, q_le_t, q_le_f, q_eq_t, q_eq_f, ne_eq, eq_self, Bool.false_eq_true, Bool.true_eq_false, not_true_eq_false, not_false_eq_true, true_and, and_true, false_and, and_false, true_or, or_true, false_or, or_false, if_true, if_false, Int.reduceAdd, Int.reduceMul, Int.reduceSub, Int.reduceNeg, R_271_0, R_271_8, R_271_15, R_271_21, R_271_26, R_271_31, R_271_37, R_271_46, R_271_49, R_271_61, R_271_70, R_271_71, R_271_77, R_271_83, R_271_87, C_271_23, C_271_28, C_271_43, C_271_58, C_271_67, C_271_80]
    rfl
  | y :: r, x, k, K, F, hC, hI => by
    obtain ⟨h1, h2, h3, h4, h5⟩ := hC
    subst h1
    have hp := hI.1 x (List.mem_cons_self ..)
    rw [R_271_32]
    simp (disch := first | omega | exact q_b_01 _) only [↓reduceIte, q_bk0, q_bk1, q_bk2, q_sg_b, q_b_0, q_b_n0, q_b_1, q_b_n1, q_b_T, q_b_F, q_sg_g, q_sg_sg, q_sg_xs, q_sg_id, q_gu_ne, q_gu_eq, q_g_fne, q_g_cpe, q_w_f, q_v_f, q_u_f, q_fn_f, q_cp_f, q_sg_pg, q_sg_hc, q_lt_t, q_lt_f, q_le_t, q_le_f, q_eq_t, q_eq_f, ne_eq, eq_self, Bool.false_eq_true, Bool.true_eq_false, not_true_eq_false, not_false_eq_true, true_and, and_true, false_and, and_false, true_or, or_true, false_or, or_false, if_true, if_false, Int.reduceAdd, Int.reduceMul, Int.reduceSub, Int.reduceNeg, R_271_0, R_271_8, R_271_15, R_271_21, R_271_26, R_271_31, R_271_37, R_271_46, R_271_49, R_271_61, R_271_70, R_271_71, R_271_77, R_271_83, R_271_87, C_271_23, C_271_28, C_271_43, C_271_58, C_271_67, C_271_80]
    obtain ⟨t, e1, e2⟩ := q_for (fun j F => EV (d + 1) 271 39 [.ref 285, .int (q_I (x)), .int (q_I (j))] [] (q_h L xs (q_v s 303 0 48 F) O c)) (fun j F' => F' = q_it (fun k V z => if z = pg (q_g s 286) x (4 + k) then q_I (pg (q_g s 286) x (10 + k)) else V z) j.toNat F) (lo := 0) (hi := pg (q_g s 286) x 1) (by omega) (fun j F' h1 h2 eF => by
      have A := hp.2 j h1 h2
      refine ⟨_, ?_, (q_it_1 _ h1 F).symm⟩
      rw [← eF, R_271_39]
      simp (disch := first | omega | exact q_b_01 _) only [↓reduceIte, q_bk0, q_bk1, q_bk2, q_sg_b, q_b_0, q_b_n0, q_b_1, q_b_n1, q_b_T, q_b_F, q_sg_g, q_sg_sg, q_sg_xs, q_sg_id, q_gu_ne, q_gu_eq, q_g_fne, q_g_cpe, q_w_f, q_v_f, q_u_f, q_fn_f, q_cp_f, q_sg_pg, q_sg_hc, q_lt_t, q_lt_f, q_le_t, q_le_f, q_eq_t, q_eq_f, ne_eq, eq_self, Bool.false_eq_true, Bool.true_eq_false, not_true_eq_false, not_false_eq_true, true_and, and_true, false_and, and_false, true_or, or_true, false_or, or_false, if_true, if_false, Int.reduceAdd, Int.reduceMul, Int.reduceSub, Int.reduceNeg, R_271_0, R_271_8, R_271_15, R_271_21, R_271_26, R_271_31, R_271_37, R_271_46, R_271_49, R_271_61, R_271_70, R_271_71, R_271_77, R_271_83, R_271_87, C_271_23, C_271_28, C_271_43, C_271_58, C_271_67, C_271_80, mm_of, q_v_u0]) (t := F) rfl
    refine Eq.trans e1 ?_
    rw [e2, R_271_39]
    simp (disch := first | omega | exact q_b_01 _) only [↓reduceIte, q_bk0, q_bk1, q_bk2, q_sg_b, q_b_0, q_b_n0, q_b_1, q_b_n1, q_b_T, q_b_F, q_sg_g, q_sg_sg, q_sg_xs, q_sg_id, q_gu_ne, q_gu_eq, q_g_fne, q_g_cpe, q_w_f, q_v_f, q_u_f, q_fn_f, q_cp_f, q_sg_pg, q_sg_hc, q_lt_t, q_lt_f, q_le_t, q_le_f, q_eq_t, q_eq_f, ne_eq, eq_self, Bool.false_eq_true, Bool.true_eq_false, not_true_eq_false, not_false_eq_true, true_and, and_true, false_and, and_false, true_or, or_true, false_or, or_false, if_true, if_false, Int.reduceAdd, Int.reduceMul, Int.reduceSub, Int.reduceNeg, R_271_0, R_271_8, R_271_15, R_271_21, R_271_26, R_271_31, R_271_37, R_271_46, R_271_49, R_271_61, R_271_70, R_271_71, R_271_77, R_271_83, R_271_87, C_271_23, C_271_28, C_271_43, C_271_58, C_271_67, C_271_80, mm_of]
    exact mm_listsL r (k := k) _ (VF (q_g s 286) 0 x F) h5 (LsI_tl hI)
theorem mm_lists (Hl : LsOk (q_g s 286)) : EV (d + 2) 271 0 [.ref 285, .null, .null] [] (q_h L xs s O c) = some (.inl none, q_h L xs (q_v s 303 0 48 (FRm (q_g s 286))) O c) := by
  have h01 := hd_01 (q_g s 286)
  simp (disch := first | omega | exact q_b_01 _) only [↓reduceIte, q_bk0, q_bk1, q_bk2, q_sg_b, q_b_0, q_b_n0, q_b_1, q_b_n1, q_b_T, q_b_F, q_sg_g, q_sg_sg, q_sg_xs, q_sg_id, q_gu_ne, q_gu_eq, q_g_fne, q_g_cpe, q_w_f, q_v_f, q_u_f, q_fn_f, q_cp_f, q_sg_pg, q_sg_hc, q_lt_t, q_lt_f, q_le_t, q_le_f, q_eq_t, q_eq_f, ne_eq, eq_self, Bool.false_eq_true, Bool.true_eq_false, not_true_eq_false, not_false_eq_true, true_and, and_true, false_and, and_false, true_or, or_true, false_or, or_false, if_true, if_false, Int.reduceAdd, Int.reduceMul, Int.reduceSub, Int.reduceNeg, R_271_0, R_271_8, R_271_15, R_271_21, R_271_26, R_271_31, R_271_37, R_271_46, R_271_49, R_271_61, R_271_70, R_271_71, R_271_77, R_271_83, R_271_87, C_271_23, C_271_28, C_271_43, C_271_58, C_271_67, C_271_80]
  refine (q_v_fl (fun j s => EV (d + 2) 271 2 [.ref 285, .int (q_I (j)), .null] [] (q_h L xs s O c)) s 303 (fun _ => -1) (lo := 0) (n := 48) (by omega) (fun j W h1 h2 => ?_)).trans ?_
  · refine ⟨-1, ?_, rfl⟩
    rw [R_271_2]
    simp (disch := first | omega | exact q_b_01 _) only [↓reduceIte, q_bk0, q_bk1, q_bk2, q_sg_b, q_b_0, q_b_n0, q_b_1, q_b_n1, q_b_T, q_b_F, q_sg_g, q_sg_sg, q_sg_xs, q_sg_id, q_gu_ne, q_gu_eq, q_g_fne, q_g_cpe, q_w_f, q_v_f, q_u_f, q_fn_f, q_cp_f, q_sg_pg, q_sg_hc, q_lt_t, q_lt_f, q_le_t, q_le_f, q_eq_t, q_eq_f, ne_eq, eq_self, Bool.false_eq_true, Bool.true_eq_false, not_true_eq_false, not_false_eq_true, true_and, and_true, false_and, and_false, true_or, or_true, false_or, or_false, if_true, if_false, Int.reduceAdd, Int.reduceMul, Int.reduceSub, Int.reduceNeg, Int.zero_add, R_271_0, R_271_8, R_271_15, R_271_21, R_271_26, R_271_31, R_271_37, R_271_46, R_271_49, R_271_61, R_271_70, R_271_71, R_271_77, R_271_83, R_271_87, C_271_23, C_271_28, C_271_43, C_271_58, C_271_67, C_271_80]
  · rw [R_271_2]
    simp (disch := first | omega | exact q_b_01 _) only [↓reduceIte, q_bk0, q_bk1, q_bk2, q_sg_b, q_b_0, q_b_n0, q_b_1, q_b_n1, q_b_T, q_b_F, q_sg_g, q_sg_sg, q_sg_xs, q_sg_id, q_gu_ne, q_gu_eq, q_g_fne, q_g_cpe, q_w_f, q_v_f, q_u_f, q_fn_f, q_cp_f, q_sg_pg, q_sg_hc, q_lt_t, q_lt_f, q_le_t, q_le_f, q_eq_t, q_eq_f, ne_eq, eq_self, Bool.false_eq_true, Bool.true_eq_false, not_true_eq_false, not_false_eq_true, true_and, and_true, false_and, and_false, true_or, or_true, false_or, or_false, if_true, if_false, Int.reduceAdd, Int.reduceMul, Int.reduceSub, Int.reduceNeg, R_271_0, R_271_8, R_271_15, R_271_21, R_271_26, R_271_31, R_271_37, R_271_46, R_271_49, R_271_61, R_271_70, R_271_71, R_271_77, R_271_83, R_271_87, C_271_23, C_271_28, C_271_43, C_271_58, C_271_67, C_271_80, mm_theHead, mm_of]
    exact mm_listsL (SLs (q_g s 286)) (k := 0) _ _ Hl.1 Hl.2.2.1
/-- a page's row in the list -/
theorem FRl_no {sl : List Int} {F : Int → Int32} {p : Int} (h : ∀ n, ¬ Lst m sl p n) : FRl m sl F p = F p := by
  induction sl generalizing F with
  | nil => rfl
  | cons y r ih =>
    show FRl m r (VF m 0 y F) p = F p
    rw [ih (fun n ⟨a, ha, x⟩ => h n ⟨a, List.mem_cons_of_mem _ ha, x⟩), vf0_ne]
    intro k k0 k1 e
    exact h (pg m y (10 + k)) ⟨y, List.mem_cons_self .., k, k0, k1, e, rfl⟩
theorem FRl_yes {sl : List Int} {F : Int → Int32} {p n : Int} (hI : LsI m sl) (hN : sl.Nodup) (h : Lst m sl p n) : FRl m sl F p = q_I n := by
  induction sl generalizing F with
  | nil =>
    obtain ⟨y, hy, _⟩ := h
    exact absurd hy (List.not_mem_nil)
  | cons y r ih =>
    show FRl m r (VF m 0 y F) p = q_I n
    obtain ⟨a, ha, k, k0, k1, e1, e2⟩ := h
    rcases List.mem_cons.mp ha with e | e
    · subst e
      rw [FRl_no, ← e1, vf0_eq k0 k1, e2]
      · intro i i0 i1 e
        exact (hI.2 a a i k (List.mem_cons_self ..) (List.mem_cons_self ..) i0 i1 k0 k1 e).2
      · rintro n' ⟨a', ha', k', b0, b1, e1', _⟩
        have := (hI.2 a' a k' k (List.mem_cons_of_mem _ ha') (List.mem_cons_self ..) b0 b1 k0 k1 (by rw [e1', e1])).1
        exact (List.nodup_cons.mp hN).1 (this ▸ ha')
    · exact ih (LsI_tl hI) (List.nodup_cons.mp hN).2 ⟨a, e, k, k0, k1, e1, e2⟩
theorem SLl_eq {sl : List Int} {S : Int → Int32} {p : Int} : SLl sl S p = if p ∈ sl then q_I 1 else S p := by
  induction sl generalizing S with
  | nil => rw [if_neg (List.not_mem_nil)]; rfl
  | cons y r ih =>
    show SLl r (fun z => if z = y then q_I 1 else S z) p = _
    rw [ih]
    by_cases h : p ∈ r
    · rw [if_pos h, if_pos (List.mem_cons_of_mem _ h)]
    · rw [if_neg h]
      by_cases e : p = y
      · rw [if_pos e, if_pos (e ▸ List.mem_cons_self ..)]
      · rw [if_neg e, if_neg]
        intro hm
        rcases List.mem_cons.mp hm with e' | e'
        · exact e e'
        · exact h e'
/-- freed: a number, or none -/
theorem fr_cases (Hl : LsOk m) (p : Int) : ((FRm m p).toInt = -1 ∧ ∀ n, ¬ Lst m (SLs m) p n) ∨ ∃ n, Lst m (SLs m) p n ∧ (FRm m p).toInt = n ∧ 0 ≤ n ∧ n ≤ hc m 0 ∧ 2 ≤ p ∧ p < hc m 3 ∧ p ∉ SLs m ∧ n < 2147483648 := by
  by_cases h : ∃ n, Lst m (SLs m) p n
  · obtain ⟨n, hn⟩ := h
    right
    have := Hl.2.2.2.2 p n hn
    have hb : n < 2147483648 := by
      obtain ⟨y, hy, k, k0, k1, e1, e2⟩ := hn
      have := (Hl.2.2.1.1 y hy).2 k k0 k1
      omega
    refine ⟨n, hn, ?_, this.2.2.1, this.2.2.2.1, this.1, this.2.1, this.2.2.2.2, hb⟩
    show (FRl m (SLs m) _ p).toInt = n
    rw [FRl_yes Hl.2.2.1 Hl.2.2.2.1 hn]
    exact q_sg_id (by omega) hb
  · left
    have h' : ∀ n, ¬ Lst m (SLs m) p n := fun n hn => h ⟨n, hn⟩
    refine ⟨?_, h'⟩
    show (FRl m (SLs m) _ p).toInt = -1
    rw [FRl_no h']
    decide
end LS
