/-! A WRITE: what becomes of the row; the reference -/
noncomputable def mn (a b : Int) : Int := if a < b then a else b
noncomputable def sdn (x : Int) : Int := q_sg (1103515245 * x + 12345)
noncomputable def drw (x : Int) : Int := q_and (q_ushr x 16) 32767
noncomputable def wpg (pl : Int → Int) (q : Int) (x : Int → Int) : Int → Int := fun z => if 281 + 16 * q ≤ z ∧ z < 297 + 16 * q then (if z = 283 + 16 * q then mn 9999 (x z + 1) else pl (z - 281)) else x z
noncomputable def trp (q : Int) (x : Int → Int) : Int → Int := fun z => if 281 + 16 * q ≤ z ∧ z < 297 + 16 * q then (if z = 283 + 16 * q then mn 9999 (x z + 1) else if z = 281 + 16 * q then 5 else if z = 284 + 16 * q then -1 else 0) else x z
noncomputable def lsp (x : Int → Int) : Int → Int := fun z => if z = 8 then 0 else if z = 9 ∨ z = 11 ∨ z = 13 ∨ z = 15 then -1 else x z
noncomputable def lgr (num what made : Int) (x : Int → Int) : Int → Int := fun z => if z = 41 then x 5 else if z = 42 then num else if z = 43 then what else if z = 44 then made else if 45 ≤ z ∧ z < 281 then x (z - 4) else if z = 6 then mn 60 (x 6 + 1) else x z
section MRO
variable {d L : Nat} {xs : Nat → Int32} {s : Nat → Int → Int32} {O : Nat → Int64} {c : Bool × Nat × Nat} {p : Int}
theorem q_g_u286 {z v : Int} : q_g (q_u s 286 z v) 286 = up (q_g s 286) z (q_sg v) := by
  funext y
  unfold up
  split
  · rename_i e
    rw [q_gu_eq e]
  · rename_i e
    rw [q_gu_ne (by omega)]
theorem mm_wears (p0 : 0 ≤ p) (p1 : p < 48) (hw : pg (q_g s 286) p 2 ≤ 9999) : EV (d + 1) 282 0 [.ref 285, .int (q_I (p))] [] (q_h L xs s O c) = some (.inl none, q_h L xs (q_u s 286 (281 + 16 * p + 2) (mn 9999 (pg (q_g s 286) p 2 + 1))) O c) := by
  have r := q_pg_rg s 286 p 2
  have e : (if q_sg 9999 < q_sg (pg (q_g s 286) p 2 + 1) then (9999 : Int) else pg (q_g s 286) p 2 + 1) = mn 9999 (pg (q_g s 286) p 2 + 1) := by
    unfold mn
    rw [q_sg_id (x := pg (q_g s 286) p 2 + 1) (by omega) (by omega), q_sg_id (x := 9999) (by omega) (by omega)]
  have le := mm_lesser (d := d) (L := L) (xs := xs) (s := s) (O := O) (c := c) (a := 9999) (b := pg (q_g s 286) p 2 + 1)
  rw [e] at le
  simp (disch := first | omega | exact q_b_01 _) only [↓reduceIte, q_bk0, q_bk1, q_bk2, q_sg_b, q_b_0, q_b_n0, q_b_1, q_b_n1, q_b_T, q_b_F, q_sg_g, q_sg_sg, q_sg_xs, q_sg_id, q_gu_ne, q_gu_eq, q_g_fne, q_g_cpe, q_w_f, q_v_f, q_u_f, q_fn_f, q_cp_f, q_sg_pg, q_sg_hc, q_lt_t, q_lt_f, q_le_t, q_le_f, q_eq_t, q_eq_f, ne_eq, eq_self, Bool.false_eq_true, Bool.true_eq_false, not_true_eq_false, not_false_eq_true, true_and, and_true, false_and, and_false, true_or, or_true, false_or, or_false, if_true, if_false, Int.reduceAdd, Int.reduceMul, Int.reduceSub, Int.reduceNeg, mm_of, le, mm_lays, R_282_0, R_282_12, R_282_20, C_282_9, C_282_14, C_282_17]
theorem mm_isWritten (p0 : 0 ≤ p) (p1 : p < 48) (hw0 : 0 ≤ pg (q_g s 286) p 2) (hw : pg (q_g s 286) p 2 ≤ 9999) : ∃ u, EV (d + 2) 283 0 [.ref 285, .int (q_I (p)), .null] [] (q_h L xs s O c) = some (.inl none, q_h L xs (u) O c) ∧ q_g u 286 = wpg (q_g s 305) p (q_g s 286) ∧ ∀ k z, k ≠ 286 → u k z = s k z := by
  obtain ⟨u, u1, u2, u3⟩ := q_for (fun j t => EV (d + 2) 283 2 [.ref 285, .int (q_I (p)), .int (q_I (j))] [] (q_h L xs (t) O c)) (fun j t => (∀ z, q_g t 286 z = if 281 + 16 * p ≤ z ∧ z < 281 + 16 * p + j ∧ z ≠ 283 + 16 * p then q_g s 305 (z - 281) else q_g s 286 z) ∧ ∀ k z, k ≠ 286 → t k z = s k z) (lo := 0) (hi := 16) (by omega) (fun j t j0 j1 P => by
      obtain ⟨P1, P2⟩ := P
      by_cases e : j = 2
      · refine ⟨t, ?_, fun z => ?_, P2⟩
        · show EV (d + 2) 283 2 [.ref 285, .int (q_I (p)), .int (q_I (j))] [] (q_h L xs (t) O c) = EV (d + 2) 283 2 [.ref 285, .int (q_I (p)), .int (q_I (j + 1))] [] (q_h L xs (t) O c)
          rw [R_283_2 (x2 := j)]
          simp (disch := first | omega | exact q_b_01 _) only [↓reduceIte, q_bk0, q_bk1, q_bk2, q_sg_b, q_b_0, q_b_n0, q_b_1, q_b_n1, q_b_T, q_b_F, q_sg_g, q_sg_sg, q_sg_xs, q_sg_id, q_gu_ne, q_gu_eq, q_g_fne, q_g_cpe, q_w_f, q_v_f, q_u_f, q_fn_f, q_cp_f, q_sg_pg, q_sg_hc, q_lt_t, q_lt_f, q_le_t, q_le_f, q_eq_t, q_eq_f, ne_eq, eq_self, Bool.false_eq_true, Bool.true_eq_false, not_true_eq_false, not_false_eq_true, true_and, and_true, false_and, and_false, true_or, or_true, false_or, or_false, if_true, if_false, Int.reduceAdd, Int.reduceMul, Int.reduceSub, Int.reduceNeg, R_283_0, R_283_8, R_283_13, R_283_30, R_283_36, R_283_41, C_283_27, C_283_38]
        · rw [P1 z]
          by_cases c : 281 + 16 * p ≤ z ∧ z < 281 + 16 * p + j ∧ z ≠ 283 + 16 * p
          · rw [if_pos c, if_pos (by omega)]
          · rw [if_neg c, if_neg (by omega)]
      · have g5 : q_g t 305 (16 * p + j) = q_g s 305 (16 * p + j) := by
          show (t 305 (16 * p + j)).toInt = _
          rw [P2 305 _ (by omega)]
          rfl
        have r5 := q_g_rg s 305 (16 * p + j)
        refine ⟨q_u t 286 (281 + 16 * p + j) (q_g s 305 (16 * p + j)), ?_, fun z => ?_, fun k z hk => by rw [q_u_n (by omega), P2 k z hk]⟩
        · show EV (d + 2) 283 2 [.ref 285, .int (q_I (p)), .int (q_I (j))] [] (q_h L xs (t) O c) = EV (d + 2) 283 2 [.ref 285, .int (q_I (p)), .int (q_I (j + 1))] [] (q_h L xs (q_u t 286 (281 + 16 * p + j) (q_g s 305 (16 * p + j))) O c)
          rw [R_283_2 (x2 := j)]
          simp (disch := first | omega | exact q_b_01 _) only [↓reduceIte, q_bk0, q_bk1, q_bk2, q_sg_b, q_b_0, q_b_n0, q_b_1, q_b_n1, q_b_T, q_b_F, q_sg_g, q_sg_sg, q_sg_xs, q_sg_id, q_gu_ne, q_gu_eq, q_g_fne, q_g_cpe, q_w_f, q_v_f, q_u_f, q_fn_f, q_cp_f, q_sg_pg, q_sg_hc, q_lt_t, q_lt_f, q_le_t, q_le_f, q_eq_t, q_eq_f, ne_eq, eq_self, Bool.false_eq_true, Bool.true_eq_false, not_true_eq_false, not_false_eq_true, true_and, and_true, false_and, and_false, true_or, or_true, false_or, or_false, if_true, if_false, Int.reduceAdd, Int.reduceMul, Int.reduceSub, Int.reduceNeg, g5, mm_lays, R_283_0, R_283_8, R_283_13, R_283_30, R_283_36, R_283_41, C_283_27, C_283_38]
        · by_cases ez : z = 281 + 16 * p + j
          · rw [q_gu_eq ez, q_sg_id r5.1 r5.2, if_pos (by omega), ez]
            rw [show 281 + 16 * p + j - 281 = 16 * p + j by omega]
          · rw [q_gu_ne (by omega), P1 z]
            by_cases c : 281 + 16 * p ≤ z ∧ z < 281 + 16 * p + j ∧ z ≠ 283 + 16 * p
            · rw [if_pos c, if_pos (by omega)]
            · rw [if_neg c, if_neg (by omega)]) (t := s) ⟨fun z => by rw [if_neg (by omega)], fun _ _ _ => rfl⟩
  have w2 : pg (q_g u 286) p 2 = pg (q_g s 286) p 2 := by
    show q_g u 286 (281 + 16 * p + 2) = _
    rw [u2, if_neg (by omega)]
    rfl
  have we := mm_wears (d := d) (L := L) (xs := xs) (s := u) (O := O) (c := c) p0 p1 (by rw [w2]; exact hw)
  rw [w2] at we
  have mr : 0 ≤ mn 9999 (pg (q_g s 286) p 2 + 1) ∧ mn 9999 (pg (q_g s 286) p 2 + 1) ≤ 9999 := by
    unfold mn
    split <;> omega
  refine ⟨q_u u 286 (281 + 16 * p + 2) (mn 9999 (pg (q_g s 286) p 2 + 1)), ?_, ?_, fun k z hk => by rw [q_u_n (by omega), u3 k z hk]⟩
  · rw [R_283_0]
    refine u1.trans ?_
    show EV (d + 2) 283 2 [.ref 285, .int (q_I (p)), .int (q_I (16))] [] (q_h L xs (u) O c) = _
    rw [R_283_2]
    simp (disch := first | omega | exact q_b_01 _) only [↓reduceIte, q_bk0, q_bk1, q_bk2, q_sg_b, q_b_0, q_b_n0, q_b_1, q_b_n1, q_b_T, q_b_F, q_sg_g, q_sg_sg, q_sg_xs, q_sg_id, q_gu_ne, q_gu_eq, q_g_fne, q_g_cpe, q_w_f, q_v_f, q_u_f, q_fn_f, q_cp_f, q_sg_pg, q_sg_hc, q_lt_t, q_lt_f, q_le_t, q_le_f, q_eq_t, q_eq_f, ne_eq, eq_self, Bool.false_eq_true, Bool.true_eq_false, not_true_eq_false, not_false_eq_true, true_and, and_true, false_and, and_false, true_or, or_true, false_or, or_false, if_true, if_false, Int.reduceAdd, Int.reduceMul, Int.reduceSub, Int.reduceNeg, we, R_283_0, R_283_8, R_283_13, R_283_30, R_283_36, R_283_41, C_283_27, C_283_38]
  · funext z
    unfold wpg
    by_cases ez : z = 281 + 16 * p + 2
    · rw [q_gu_eq ez, q_sg_id (by omega) (by omega), if_pos (by omega), if_pos (by omega), ez]
      rfl
    · rw [q_gu_ne (by omega), u2 z]
      by_cases c : 281 + 16 * p ≤ z ∧ z < 297 + 16 * p
      · rw [if_pos c, if_pos (by omega), if_neg (by omega)]
      · rw [if_neg c, if_neg (by omega)]
theorem mm_tears (p0 : 0 ≤ p) (p1 : p < 48) (hw0 : 0 ≤ pg (q_g s 286) p 2) (hw : pg (q_g s 286) p 2 ≤ 9999) : ∃ u, EV (d + 2) 284 0 [.ref 285, .int (q_I (p)), .null] [] (q_h L xs s O c) = some (.inl none, q_h L xs (u) O c) ∧ q_g u 286 = lsp (trp p (q_g s 286)) ∧ ∀ k z, k ≠ 286 → u k z = s k z := by
  obtain ⟨u, u1, u2, u3⟩ := q_for (fun j t => EV (d + 2) 284 2 [.ref 285, .int (q_I (p)), .int (q_I (j))] [] (q_h L xs (t) O c)) (fun j t => (∀ z, q_g t 286 z = if 281 + 16 * p ≤ z ∧ z < 281 + 16 * p + j ∧ z ≠ 283 + 16 * p then 0 else q_g s 286 z) ∧ ∀ k z, k ≠ 286 → t k z = s k z) (lo := 0) (hi := 16) (by omega) (fun j t j0 j1 P => by
      obtain ⟨P1, P2⟩ := P
      by_cases e : j = 2
      · refine ⟨t, ?_, fun z => ?_, P2⟩
        · show EV (d + 2) 284 2 [.ref 285, .int (q_I (p)), .int (q_I (j))] [] (q_h L xs (t) O c) = EV (d + 2) 284 2 [.ref 285, .int (q_I (p)), .int (q_I (j + 1))] [] (q_h L xs (t) O c)
          rw [R_284_2 (x2 := j)]
          simp (disch := first | omega | exact q_b_01 _) only [↓reduceIte, q_bk0, q_bk1, q_bk2, q_sg_b, q_b_0, q_b_n0, q_b_1, q_b_n1, q_b_T, q_b_F, q_sg_g, q_sg_sg, q_sg_xs, q_sg_id, q_gu_ne, q_gu_eq, q_g_fne, q_g_cpe, q_w_f, q_v_f, q_u_f, q_fn_f, q_cp_f, q_sg_pg, q_sg_hc, q_lt_t, q_lt_f, q_le_t, q_le_f, q_eq_t, q_eq_f, ne_eq, eq_self, Bool.false_eq_true, Bool.true_eq_false, not_true_eq_false, not_false_eq_true, true_and, and_true, false_and, and_false, true_or, or_true, false_or, or_false, if_true, if_false, Int.reduceAdd, Int.reduceMul, Int.reduceSub, Int.reduceNeg, R_284_0, R_284_8, R_284_13, R_284_20, R_284_26, R_284_33, R_284_40, R_284_45, R_284_47, R_284_52, R_284_64, R_284_70, R_284_78, C_284_17, C_284_30, C_284_37, C_284_42]
        · rw [P1 z]
          by_cases c : 281 + 16 * p ≤ z ∧ z < 281 + 16 * p + j ∧ z ≠ 283 + 16 * p
          · rw [if_pos c, if_pos (by omega)]
          · rw [if_neg c, if_neg (by omega)]
      · refine ⟨q_u t 286 (281 + 16 * p + j) 0, ?_, fun z => ?_, fun k z hk => by rw [q_u_n (by omega), P2 k z hk]⟩
        · show EV (d + 2) 284 2 [.ref 285, .int (q_I (p)), .int (q_I (j))] [] (q_h L xs (t) O c) = EV (d + 2) 284 2 [.ref 285, .int (q_I (p)), .int (q_I (j + 1))] [] (q_h L xs (q_u t 286 (281 + 16 * p + j) 0) O c)
          rw [R_284_2 (x2 := j)]
          simp (disch := first | omega | exact q_b_01 _) only [↓reduceIte, q_bk0, q_bk1, q_bk2, q_sg_b, q_b_0, q_b_n0, q_b_1, q_b_n1, q_b_T, q_b_F, q_sg_g, q_sg_sg, q_sg_xs, q_sg_id, q_gu_ne, q_gu_eq, q_g_fne, q_g_cpe, q_w_f, q_v_f, q_u_f, q_fn_f, q_cp_f, q_sg_pg, q_sg_hc, q_lt_t, q_lt_f, q_le_t, q_le_f, q_eq_t, q_eq_f, ne_eq, eq_self, Bool.false_eq_true, Bool.true_eq_false, not_true_eq_false, not_false_eq_true, true_and, and_true, false_and, and_false, true_or, or_true, false_or, or_false, if_true, if_false, Int.reduceAdd, Int.reduceMul, Int.reduceSub, Int.reduceNeg, mm_lays, R_284_0, R_284_8, R_284_13, R_284_20, R_284_26, R_284_33, R_284_40, R_284_45, R_284_47, R_284_52, R_284_64, R_284_70, R_284_78, C_284_17, C_284_30, C_284_37, C_284_42]
        · by_cases ez : z = 281 + 16 * p + j
          · rw [q_gu_eq ez, if_pos (by omega)]
            rfl
          · rw [q_gu_ne (by omega), P1 z]
            by_cases c : 281 + 16 * p ≤ z ∧ z < 281 + 16 * p + j ∧ z ≠ 283 + 16 * p
            · rw [if_pos c, if_pos (by omega)]
            · rw [if_neg c, if_neg (by omega)]) (t := s) ⟨fun z => by rw [if_neg (by omega)], fun _ _ _ => rfl⟩
  generalize hM : q_u (q_u u 286 (281 + 16 * p + 0) 5) 286 (281 + 16 * p + 3) (-1) = M
  have Mz : ∀ z, q_g M 286 z = if z = 281 + 16 * p + 3 then -1 else if z = 281 + 16 * p then 5 else q_g u 286 z := fun z => by
    rw [← hM]
    by_cases e3 : z = 281 + 16 * p + 3
    · rw [if_pos e3, q_gu_eq e3]
      rfl
    · rw [if_neg e3, q_gu_ne (by omega)]
      by_cases e0 : z = 281 + 16 * p
      · rw [if_pos e0, q_gu_eq (by omega)]
        rfl
      · rw [if_neg e0, q_gu_ne (by omega)]
  have w2 : pg (q_g M 286) p 2 = pg (q_g s 286) p 2 := by
    show q_g M 286 (281 + 16 * p + 2) = _
    rw [Mz, if_neg (by omega), if_neg (by omega), u2, if_neg (by omega)]
    rfl
  have we := mm_wears (d := d) (L := L) (xs := xs) (s := M) (O := O) (c := c) p0 p1 (by rw [w2]; exact hw)
  rw [w2] at we
  have mr : 0 ≤ mn 9999 (pg (q_g s 286) p 2 + 1) ∧ mn 9999 (pg (q_g s 286) p 2 + 1) ≤ 9999 := by
    unfold mn
    split <;> omega
  generalize hW : q_u M 286 (281 + 16 * p + 2) (mn 9999 (pg (q_g s 286) p 2 + 1)) = W at we
  have eW : q_g W 286 = trp p (q_g s 286) := by
    funext z
    unfold trp
    rw [← hW]
    by_cases ez : z = 281 + 16 * p + 2
    · rw [q_gu_eq ez, q_sg_id (by omega) (by omega), if_pos (by omega), if_pos (by omega), ez]
      rfl
    · rw [q_gu_ne (by omega), Mz, u2]
      repeat' split
      all_goals first | rfl | omega
  have Wk : ∀ k z, k ≠ 286 → W k z = s k z := fun k z hk => by rw [← hW, q_u_n (by omega), ← hM, q_u_n (by omega), q_u_n (by omega), u3 k z hk]
  obtain ⟨v, v1, v2, v3⟩ := q_for (fun j t => EV (d + 2) 284 47 [.ref 285, .int (q_I (p)), .int (q_I (j))] [] (q_h L xs (t) O c)) (fun j t => (∀ z, q_g t 286 z = if z = 9 ∧ 0 < j ∨ z = 11 ∧ 1 < j ∨ z = 13 ∧ 2 < j ∨ z = 15 ∧ 3 < j then -1 else q_g W 286 z) ∧ ∀ k z, k ≠ 286 → t k z = s k z) (lo := 0) (hi := 4) (by omega) (fun j t j0 j1 P => by
      obtain ⟨P1, P2⟩ := P
      refine ⟨q_u t 286 (9 + 2 * j) (-1), ?_, fun z => ?_, fun k z hk => by rw [q_u_n (by omega), P2 k z hk]⟩
      · show EV (d + 2) 284 47 [.ref 285, .int (q_I (p)), .int (q_I (j))] [] (q_h L xs (t) O c) = EV (d + 2) 284 47 [.ref 285, .int (q_I (p)), .int (q_I (j + 1))] [] (q_h L xs (q_u t 286 (9 + 2 * j) (-1)) O c)
        rw [R_284_47 (x2 := j)]
        simp (disch := first | omega | exact q_b_01 _) only [↓reduceIte, q_bk0, q_bk1, q_bk2, q_sg_b, q_b_0, q_b_n0, q_b_1, q_b_n1, q_b_T, q_b_F, q_sg_g, q_sg_sg, q_sg_xs, q_sg_id, q_gu_ne, q_gu_eq, q_g_fne, q_g_cpe, q_w_f, q_v_f, q_u_f, q_fn_f, q_cp_f, q_sg_pg, q_sg_hc, q_lt_t, q_lt_f, q_le_t, q_le_f, q_eq_t, q_eq_f, ne_eq, eq_self, Bool.false_eq_true, Bool.true_eq_false, not_true_eq_false, not_false_eq_true, true_and, and_true, false_and, and_false, true_or, or_true, false_or, or_false, if_true, if_false, Int.reduceAdd, Int.reduceMul, Int.reduceSub, Int.reduceNeg, R_284_0, R_284_8, R_284_13, R_284_20, R_284_26, R_284_33, R_284_40, R_284_45, R_284_52, R_284_64, R_284_70, R_284_78, C_284_17, C_284_30, C_284_37, C_284_42]
      · by_cases ez : z = 9 + 2 * j
        · rw [q_gu_eq ez, if_pos (by omega)]
          rfl
        · rw [q_gu_ne (by omega), P1 z]
          by_cases c : z = 9 ∧ 0 < j ∨ z = 11 ∧ 1 < j ∨ z = 13 ∧ 2 < j ∨ z = 15 ∧ 3 < j
          · rw [if_pos c, if_pos (by omega)]
          · rw [if_neg c, if_neg (by omega)]) (t := W) ⟨fun z => by rw [if_neg (by omega)], Wk⟩
  refine ⟨q_u v 286 8 0, ?_, ?_, fun k z hk => by rw [q_u_n (by omega), v3 k z hk]⟩
  · rw [R_284_0]
    refine u1.trans ?_
    show EV (d + 2) 284 2 [.ref 285, .int (q_I (p)), .int (q_I (16))] [] (q_h L xs (u) O c) = _
    rw [R_284_2]
    simp (disch := first | omega | exact q_b_01 _) only [↓reduceIte, q_bk0, q_bk1, q_bk2, q_sg_b, q_b_0, q_b_n0, q_b_1, q_b_n1, q_b_T, q_b_F, q_sg_g, q_sg_sg, q_sg_xs, q_sg_id, q_gu_ne, q_gu_eq, q_g_fne, q_g_cpe, q_w_f, q_v_f, q_u_f, q_fn_f, q_cp_f, q_sg_pg, q_sg_hc, q_lt_t, q_lt_f, q_le_t, q_le_f, q_eq_t, q_eq_f, ne_eq, eq_self, Bool.false_eq_true, Bool.true_eq_false, not_true_eq_false, not_false_eq_true, true_and, and_true, false_and, and_false, true_or, or_true, false_or, or_false, if_true, if_false, Int.reduceAdd, Int.reduceMul, Int.reduceSub, Int.reduceNeg, mm_lays, hM, we, R_284_0, R_284_8, R_284_13, R_284_20, R_284_26, R_284_33, R_284_40, R_284_45, R_284_52, R_284_64, R_284_70, R_284_78, C_284_17, C_284_30, C_284_37, C_284_42]
    refine v1.trans ?_
    show EV (d + 2) 284 47 [.ref 285, .int (q_I (p)), .int (q_I (4))] [] (q_h L xs (v) O c) = _
    rw [R_284_47]
    simp (disch := first | omega | exact q_b_01 _) only [↓reduceIte, q_bk0, q_bk1, q_bk2, q_sg_b, q_b_0, q_b_n0, q_b_1, q_b_n1, q_b_T, q_b_F, q_sg_g, q_sg_sg, q_sg_xs, q_sg_id, q_gu_ne, q_gu_eq, q_g_fne, q_g_cpe, q_w_f, q_v_f, q_u_f, q_fn_f, q_cp_f, q_sg_pg, q_sg_hc, q_lt_t, q_lt_f, q_le_t, q_le_f, q_eq_t, q_eq_f, ne_eq, eq_self, Bool.false_eq_true, Bool.true_eq_false, not_true_eq_false, not_false_eq_true, true_and, and_true, false_and, and_false, true_or, or_true, false_or, or_false, if_true, if_false, Int.reduceAdd, Int.reduceMul, Int.reduceSub, Int.reduceNeg, R_284_0, R_284_8, R_284_13, R_284_20, R_284_26, R_284_33, R_284_40, R_284_45, R_284_52, R_284_64, R_284_70, R_284_78, C_284_17, C_284_30, C_284_37, C_284_42]
  · funext z
    unfold lsp
    rw [← eW]
    by_cases e8 : z = 8
    · rw [if_pos e8, q_gu_eq e8]
      rfl
    · rw [if_neg e8, q_gu_ne (by omega), v2 z]
      by_cases c : z = 9 ∨ z = 11 ∨ z = 13 ∨ z = 15
      · rw [if_pos c, if_pos (by omega)]
      · rw [if_neg c, if_neg (by omega)]
theorem mm_logs {num what : Int} (n0 : -2147483648 ≤ num) (n1 : num < 2147483648) (w0 : 0 ≤ what) (w1 : what ≤ 1) (h6 : 0 ≤ q_g s 286 6) (h6' : q_g s 286 6 ≤ 60) : ∃ u, EV (d + 1) 281 0 [.ref 285, .int (q_I (num)), .int (q_I (what)), .null] [] (q_h L xs s O c) = some (.inl none, q_h L xs (u) O c) ∧ q_g u 286 = lgr num what (q_g s 285 40) (q_g s 286) ∧ ∀ k z, k ≠ 286 → u k z = s k z := by
  have key : ∀ (f : Nat) (t : Nat → Int → Int32) (j : Int), j - 3 = f → 3 ≤ j → j ≤ 239 → (∀ z, q_g t 286 z = if 41 + j < z ∧ z ≤ 280 then q_g s 286 (z - 4) else q_g s 286 z) → (∀ k z, k ≠ 286 → t k z = s k z) → ∃ u, EV (d + 1) 281 4 [.ref 285, .int (q_I (num)), .int (q_I (what)), .int (q_I (j))] [] (q_h L xs (t) O c) = EV (d + 1) 281 35 [.ref 285, .int (q_I (num)), .int (q_I (what)), .int (q_I (3))] [] (q_h L xs (u) O c) ∧ (∀ z, q_g u 286 z = if 45 ≤ z ∧ z ≤ 280 then q_g s 286 (z - 4) else q_g s 286 z) ∧ ∀ k z, k ≠ 286 → u k z = s k z := by
    intro f
    induction f with
    | zero =>
      intro t j hj j0 j1 P1 P2
      have ej : j = 3 := by omega
      subst ej
      refine ⟨t, ?_, fun z => ?_, P2⟩
      · rw [R_281_4]
        simp (disch := first | omega | exact q_b_01 _) only [↓reduceIte, q_bk0, q_bk1, q_bk2, q_sg_b, q_b_0, q_b_n0, q_b_1, q_b_n1, q_b_T, q_b_F, q_sg_g, q_sg_sg, q_sg_xs, q_sg_id, q_gu_ne, q_gu_eq, q_g_fne, q_g_cpe, q_w_f, q_v_f, q_u_f, q_fn_f, q_cp_f, q_sg_pg, q_sg_hc, q_lt_t, q_lt_f, q_le_t, q_le_f, q_eq_t, q_eq_f, ne_eq, eq_self, Bool.false_eq_true, Bool.true_eq_false, not_true_eq_false, not_false_eq_true, true_and, and_true, false_and, and_false, true_or, or_true, false_or, or_false, if_true, if_false, Int.reduceAdd, Int.reduceMul, Int.reduceSub, Int.reduceNeg]
      · rw [P1 z]
        by_cases c : 45 ≤ z ∧ z ≤ 280
        · rw [if_pos c, if_pos (by omega)]
        · rw [if_neg c, if_neg (by omega)]
    | succ f ih =>
      intro t j hj j0 j1 P1 P2
      have g : q_g t 286 (41 + j - 4) = q_g s 286 (41 + j - 4) := by rw [P1, if_neg (by omega)]
      have gr := q_g_rg s 286 (41 + j - 4)
      obtain ⟨u, u1, u2, u3⟩ := ih (q_u t 286 (41 + j) (q_g s 286 (41 + j - 4))) (j - 1) (by omega) (by omega) (by omega) (fun z => by
        by_cases ez : z = 41 + j
        · rw [q_gu_eq ez, q_sg_id gr.1 gr.2, if_pos (by omega), ez]
        · rw [q_gu_ne (by omega), P1 z]
          by_cases c : 41 + j < z ∧ z ≤ 280
          · rw [if_pos c, if_pos (by omega)]
          · rw [if_neg c, if_neg (by omega)]) (fun k z hk => by rw [q_u_n (by omega), P2 k z hk])
      refine ⟨u, ?_, u2, u3⟩
      rw [← u1, R_281_4 (x3 := j)]
      simp (disch := first | omega | exact q_b_01 _) only [↓reduceIte, q_bk0, q_bk1, q_bk2, q_sg_b, q_b_0, q_b_n0, q_b_1, q_b_n1, q_b_T, q_b_F, q_sg_g, q_sg_sg, q_sg_xs, q_sg_id, q_gu_ne, q_gu_eq, q_g_fne, q_g_cpe, q_w_f, q_v_f, q_u_f, q_fn_f, q_cp_f, q_sg_pg, q_sg_hc, q_lt_t, q_lt_f, q_le_t, q_le_f, q_eq_t, q_eq_f, ne_eq, eq_self, Bool.false_eq_true, Bool.true_eq_false, not_true_eq_false, not_false_eq_true, true_and, and_true, false_and, and_false, true_or, or_true, false_or, or_false, if_true, if_false, Int.reduceAdd, Int.reduceMul, Int.reduceSub, Int.reduceNeg, g, R_281_0, R_281_9, R_281_28, R_281_29, R_281_32, R_281_47, R_281_48, R_281_56, R_281_64, R_281_75, R_281_90, R_281_95, R_281_96, C_281_92]
      rw [show j + -1 = j - 1 by omega]
  obtain ⟨u, u1, u2, u3⟩ := key 236 s 239 (by omega) (by omega) (by omega) (fun z => by rw [if_neg (by omega)]) (fun _ _ _ => rfl)
  have u5 : q_g u 286 5 = q_g s 286 5 := by rw [u2, if_neg (by omega)]
  have u6 : q_g u 286 6 = q_g s 286 6 := by rw [u2, if_neg (by omega)]
  have u40 : q_g u 285 40 = q_g s 285 40 := by
    show (u 285 40).toInt = _
    rw [u3 285 40 (by omega)]
    rfl
  have r5 := q_g_rg s 286 5
  have r40 := q_g_rg s 285 40
  generalize hA : q_u (q_u (q_u u 286 41 (q_g s 286 5)) 286 42 num) 286 43 what = A
  have A40 : q_g A 285 40 = q_g s 285 40 := by rw [← hA, q_gu_ne (by omega), q_gu_ne (by omega), q_gu_ne (by omega), u40]
  generalize hB : q_u A 286 44 (q_g s 285 40) = B
  have B6 : q_g B 286 6 = q_g s 286 6 := by rw [← hB, q_gu_ne (by omega), ← hA, q_gu_ne (by omega), q_gu_ne (by omega), q_gu_ne (by omega), u6]
  have le := mm_lesser (d := d) (L := L) (xs := xs) (s := B) (O := O) (c := c) (a := 60) (b := q_g s 286 6 + 1)
  have e : (if q_sg 60 < q_sg (q_g s 286 6 + 1) then (60 : Int) else q_g s 286 6 + 1) = mn 60 (q_g s 286 6 + 1) := by
    unfold mn
    rw [q_sg_id (x := q_g s 286 6 + 1) (by omega) (by omega), q_sg_id (x := 60) (by omega) (by omega)]
  rw [e] at le
  have mr : 0 ≤ mn 60 (q_g s 286 6 + 1) ∧ mn 60 (q_g s 286 6 + 1) ≤ 60 := by
    unfold mn
    split <;> omega
  refine ⟨q_u B 286 6 (mn 60 (q_g s 286 6 + 1)), ?_, ?_, fun k z hk => by rw [q_u_n (by omega), ← hB, q_u_n (by omega), ← hA, q_u_n (by omega), q_u_n (by omega), q_u_n (by omega), u3 k z hk]⟩
  · rw [R_281_0, u1]
    simp (disch := first | omega | exact q_b_01 _) only [↓reduceIte, q_bk0, q_bk1, q_bk2, q_sg_b, q_b_0, q_b_n0, q_b_1, q_b_n1, q_b_T, q_b_F, q_sg_g, q_sg_sg, q_sg_xs, q_sg_id, q_gu_ne, q_gu_eq, q_g_fne, q_g_cpe, q_w_f, q_v_f, q_u_f, q_fn_f, q_cp_f, q_sg_pg, q_sg_hc, q_lt_t, q_lt_f, q_le_t, q_le_f, q_eq_t, q_eq_f, ne_eq, eq_self, Bool.false_eq_true, Bool.true_eq_false, not_true_eq_false, not_false_eq_true, true_and, and_true, false_and, and_false, true_or, or_true, false_or, or_false, if_true, if_false, Int.reduceAdd, Int.reduceMul, Int.reduceSub, Int.reduceNeg, u5, hA, A40, hB, B6, le, R_281_0, R_281_9, R_281_28, R_281_29, R_281_32, R_281_35, R_281_47, R_281_48, R_281_56, R_281_64, R_281_75, R_281_90, R_281_95, R_281_96, C_281_92]
  · funext z
    unfold lgr
    by_cases e6 : z = 6
    · rw [q_gu_eq e6, q_sg_id (by omega) (by omega), if_neg (by omega), if_neg (by omega), if_neg (by omega), if_neg (by omega), if_neg (by omega), if_pos e6]
    · rw [q_gu_ne (by omega), ← hB]
      by_cases e44 : z = 44
      · rw [q_gu_eq e44, q_sg_id r40.1 r40.2, if_neg (by omega), if_neg (by omega), if_neg (by omega), if_pos e44]
      · rw [q_gu_ne (by omega), ← hA]
        by_cases e43 : z = 43
        · rw [q_gu_eq e43, q_sg_id (by omega) (by omega), if_neg (by omega), if_neg (by omega), if_pos e43]
        · rw [q_gu_ne (by omega)]
          by_cases e42 : z = 42
          · rw [q_gu_eq e42, q_sg_id n0 n1, if_neg (by omega), if_pos e42]
          · rw [q_gu_ne (by omega)]
            by_cases e41 : z = 41
            · rw [q_gu_eq e41, q_sg_id r5.1 r5.2, if_pos e41]
            · rw [q_gu_ne (by omega), u2 z, if_neg e41, if_neg e42, if_neg e43, if_neg e44]
              by_cases c : 45 ≤ z ∧ z < 281
              · rw [if_pos (by omega), if_pos c]
              · rw [if_neg (by omega), if_neg c, if_neg e6]
theorem mm_draw {n : Int} (n0 : 0 < n) (n1 : n < 2147483648) : EV (d) 280 0 [.ref 285, .int (q_I (n))] [] (q_h L xs s O c) = some (.inl (some (.int (q_I (q_rm (drw (sdn (q_g s 286 7))) n)))), q_h L xs (q_u s 286 7 (1103515245 * q_g s 286 7 + 12345)) O c) := by
  have g7 : q_g (q_u s 286 7 (1103515245 * q_g s 286 7 + 12345)) 286 7 = sdn (q_g s 286 7) := q_gu_eq rfl
  have nz : q_sg n ≠ 0 := by
    rw [q_sg_id (by omega) n1]
    omega
  rw [R_280_0, R_280_16 (h0 := by omega) (h1 := by omega), R_280_22]
  rw [g7, R_280_29 (h0 := nz), R_280_38]
  rfl
end MRO
