/-! THE CLASS: states copied; what is remembered -/
def isS (q : Nat) : Prop := q = 7 ∨ q = 21 ∨ q = 35 ∨ q = 73 ∨ q = 87 ∨ q = 101 ∨ q = 115 ∨ q = 129 ∨ q = 143 ∨ q = 157 ∨ q = 171 ∨ q = 185 ∨ q = 199 ∨ q = 213 ∨ q = 227
section CPY
variable {d L : Nat} {xs : Nat → Int32} {s : Nat → Int → Int32} {O : Nat → Int64} {c : Bool × Nat × Nat} {q q' : Nat}
theorem st_B (h : isS q) : ly_B q 7 [some (q + 1), some (q + 9), some (q + 10), some (q + 11), some (q + 12), none, none, none, none, none, none, some (q + 13), none, none] := by
  rcases h with e | e | e | e | e | e | e | e | e | e | e | e | e | e | e <;> subst e <;> exact ⟨rfl, by decide, by decide, by decide, by decide⟩
theorem st_D (h : isS q) : ly_B (q + 1) 0 [some (q + 2), some (q + 3), some (q + 4), some (q + 5), some (q + 6), some (q + 7), some (q + 8)] := by
  rcases h with e | e | e | e | e | e | e | e | e | e | e | e | e | e | e <;> subst e <;> exact ⟨rfl, by decide, by decide, by decide, by decide⟩
theorem st_A2 (h : isS q) : ly_A (q + 2) 48 .int := by
  rcases h with e | e | e | e | e | e | e | e | e | e | e | e | e | e | e <;> subst e <;> exact ⟨rfl, by decide, by decide, by decide, by decide⟩
theorem st_A3 (h : isS q) : ly_A (q + 3) 48 .int := by
  rcases h with e | e | e | e | e | e | e | e | e | e | e | e | e | e | e <;> subst e <;> exact ⟨rfl, by decide, by decide, by decide, by decide⟩
theorem st_A4 (h : isS q) : ly_A (q + 4) 48 .int := by
  rcases h with e | e | e | e | e | e | e | e | e | e | e | e | e | e | e <;> subst e <;> exact ⟨rfl, by decide, by decide, by decide, by decide⟩
theorem st_A5 (h : isS q) : ly_A (q + 5) 48 .int := by
  rcases h with e | e | e | e | e | e | e | e | e | e | e | e | e | e | e <;> subst e <;> exact ⟨rfl, by decide, by decide, by decide, by decide⟩
theorem st_A6 (h : isS q) : ly_A (q + 6) 288 .int := by
  rcases h with e | e | e | e | e | e | e | e | e | e | e | e | e | e | e <;> subst e <;> exact ⟨rfl, by decide, by decide, by decide, by decide⟩
theorem st_A7 (h : isS q) : ly_A (q + 7) 288 .int := by
  rcases h with e | e | e | e | e | e | e | e | e | e | e | e | e | e | e <;> subst e <;> exact ⟨rfl, by decide, by decide, by decide, by decide⟩
theorem st_A8 (h : isS q) : ly_A (q + 8) 8 .int := by
  rcases h with e | e | e | e | e | e | e | e | e | e | e | e | e | e | e <;> subst e <;> exact ⟨rfl, by decide, by decide, by decide, by decide⟩
theorem st_A9 (h : isS q) : ly_A (q + 9) 4 .int := by
  rcases h with e | e | e | e | e | e | e | e | e | e | e | e | e | e | e <;> subst e <;> exact ⟨rfl, by decide, by decide, by decide, by decide⟩
theorem st_A10 (h : isS q) : ly_A (q + 10) 4 .int := by
  rcases h with e | e | e | e | e | e | e | e | e | e | e | e | e | e | e <;> subst e <;> exact ⟨rfl, by decide, by decide, by decide, by decide⟩
theorem st_A11 (h : isS q) : ly_A (q + 11) 12 .int := by
  rcases h with e | e | e | e | e | e | e | e | e | e | e | e | e | e | e <;> subst e <;> exact ⟨rfl, by decide, by decide, by decide, by decide⟩
theorem st_A12 (h : isS q) : ly_A (q + 12) 12 .int := by
  rcases h with e | e | e | e | e | e | e | e | e | e | e | e | e | e | e <;> subst e <;> exact ⟨rfl, by decide, by decide, by decide, by decide⟩
theorem st_A13 (h : isS q) : ly_A (q + 13) 240 .int := by
  rcases h with e | e | e | e | e | e | e | e | e | e | e | e | e | e | e <;> subst e <;> exact ⟨rfl, by decide, by decide, by decide, by decide⟩
theorem st_g0 (h : isS q) : ex_get (q_h L xs s O c) q 7 0 = some (.ref (q + 1)) := q_gr (st_B h) rfl
theorem st_g1 (h : isS q) : ex_get (q_h L xs s O c) q 7 1 = some (.ref (q + 9)) := q_gr (st_B h) rfl
theorem st_g2 (h : isS q) : ex_get (q_h L xs s O c) q 7 2 = some (.ref (q + 10)) := q_gr (st_B h) rfl
theorem st_g3 (h : isS q) : ex_get (q_h L xs s O c) q 7 3 = some (.ref (q + 11)) := q_gr (st_B h) rfl
theorem st_g4 (h : isS q) : ex_get (q_h L xs s O c) q 7 4 = some (.ref (q + 12)) := q_gr (st_B h) rfl
theorem st_g11 (h : isS q) : ex_get (q_h L xs s O c) q 7 11 = some (.ref (q + 13)) := q_gr (st_B h) rfl
theorem st_g5 (h : isS q) : ex_get (q_h L xs s O c) q 7 5 = some (.int (q_I (q_g s q 5))) := q_gi (st_B h) rfl
theorem st_p5 (h : isS q) {v : Int} : ex_put (q_h L xs s O c) q 7 5 0 (.int (q_I v)) = some (q_h L xs (q_u s q 5 v) O c) := q_pi (st_B h) rfl
theorem st_g6 (h : isS q) : ex_get (q_h L xs s O c) q 7 6 = some (.int (q_I (q_g s q 6))) := q_gi (st_B h) rfl
theorem st_p6 (h : isS q) {v : Int} : ex_put (q_h L xs s O c) q 7 6 0 (.int (q_I v)) = some (q_h L xs (q_u s q 6 v) O c) := q_pi (st_B h) rfl
theorem st_g7 (h : isS q) : ex_get (q_h L xs s O c) q 7 7 = some (.int (q_I (q_g s q 7))) := q_gi (st_B h) rfl
theorem st_p7 (h : isS q) {v : Int} : ex_put (q_h L xs s O c) q 7 7 0 (.int (q_I v)) = some (q_h L xs (q_u s q 7 v) O c) := q_pi (st_B h) rfl
theorem st_g8 (h : isS q) : ex_get (q_h L xs s O c) q 7 8 = some (.int (q_I (q_g s q 8))) := q_gi (st_B h) rfl
theorem st_p8 (h : isS q) {v : Int} : ex_put (q_h L xs s O c) q 7 8 0 (.int (q_I v)) = some (q_h L xs (q_u s q 8 v) O c) := q_pi (st_B h) rfl
theorem st_g9 (h : isS q) : ex_get (q_h L xs s O c) q 7 9 = some (.int (q_I (q_g s q 9))) := q_gi (st_B h) rfl
theorem st_p9 (h : isS q) {v : Int} : ex_put (q_h L xs s O c) q 7 9 0 (.int (q_I v)) = some (q_h L xs (q_u s q 9 v) O c) := q_pi (st_B h) rfl
theorem st_g10 (h : isS q) : ex_get (q_h L xs s O c) q 7 10 = some (.int (q_I (q_g s q 10))) := q_gi (st_B h) rfl
theorem st_p10 (h : isS q) {v : Int} : ex_put (q_h L xs s O c) q 7 10 0 (.int (q_I v)) = some (q_h L xs (q_u s q 10 v) O c) := q_pi (st_B h) rfl
theorem st_g12 (h : isS q) : ex_get (q_h L xs s O c) q 7 12 = some (.int (q_I (q_g s q 12))) := q_gi (st_B h) rfl
theorem st_p12 (h : isS q) {v : Int} : ex_put (q_h L xs s O c) q 7 12 0 (.int (q_I v)) = some (q_h L xs (q_u s q 12 v) O c) := q_pi (st_B h) rfl
theorem st_g13 (h : isS q) : ex_get (q_h L xs s O c) q 7 13 = some (.int (q_I (q_g s q 13))) := q_gi (st_B h) rfl
theorem st_p13 (h : isS q) {v : Int} : ex_put (q_h L xs s O c) q 7 13 0 (.int (q_I v)) = some (q_h L xs (q_u s q 13 v) O c) := q_pi (st_B h) rfl
theorem st_d0 (h : isS q) : ex_get (q_h L xs s O c) (q + 1) 0 0 = some (.ref (q + 2)) := q_gr (st_D h) rfl
theorem st_d1 (h : isS q) : ex_get (q_h L xs s O c) (q + 1) 0 1 = some (.ref (q + 3)) := q_gr (st_D h) rfl
theorem st_d2 (h : isS q) : ex_get (q_h L xs s O c) (q + 1) 0 2 = some (.ref (q + 4)) := q_gr (st_D h) rfl
theorem st_d3 (h : isS q) : ex_get (q_h L xs s O c) (q + 1) 0 3 = some (.ref (q + 5)) := q_gr (st_D h) rfl
theorem st_d4 (h : isS q) : ex_get (q_h L xs s O c) (q + 1) 0 4 = some (.ref (q + 6)) := q_gr (st_D h) rfl
theorem st_d5 (h : isS q) : ex_get (q_h L xs s O c) (q + 1) 0 5 = some (.ref (q + 7)) := q_gr (st_D h) rfl
theorem st_d6 (h : isS q) : ex_get (q_h L xs s O c) (q + 1) 0 6 = some (.ref (q + 8)) := q_gr (st_D h) rfl
theorem st_c2 (h : isS q) (h' : isS q') : ex_cpi (q_h L xs s O c) (q' + 2) (q_I 0) (q + 2) (q_I 0) (q_I 48) = some (q_h L xs (q_cp s (q' + 2) 0 (q + 2) 0 48) O c) := q_cpi (st_A2 h') (st_A2 h) (by decide) (by decide) (by decide) (by decide) (by decide) (by decide) (by decide)
theorem st_c3 (h : isS q) (h' : isS q') : ex_cpi (q_h L xs s O c) (q' + 3) (q_I 0) (q + 3) (q_I 0) (q_I 48) = some (q_h L xs (q_cp s (q' + 3) 0 (q + 3) 0 48) O c) := q_cpi (st_A3 h') (st_A3 h) (by decide) (by decide) (by decide) (by decide) (by decide) (by decide) (by decide)
theorem st_c4 (h : isS q) (h' : isS q') : ex_cpi (q_h L xs s O c) (q' + 4) (q_I 0) (q + 4) (q_I 0) (q_I 48) = some (q_h L xs (q_cp s (q' + 4) 0 (q + 4) 0 48) O c) := q_cpi (st_A4 h') (st_A4 h) (by decide) (by decide) (by decide) (by decide) (by decide) (by decide) (by decide)
theorem st_c5 (h : isS q) (h' : isS q') : ex_cpi (q_h L xs s O c) (q' + 5) (q_I 0) (q + 5) (q_I 0) (q_I 48) = some (q_h L xs (q_cp s (q' + 5) 0 (q + 5) 0 48) O c) := q_cpi (st_A5 h') (st_A5 h) (by decide) (by decide) (by decide) (by decide) (by decide) (by decide) (by decide)
theorem st_c6 (h : isS q) (h' : isS q') : ex_cpi (q_h L xs s O c) (q' + 6) (q_I 0) (q + 6) (q_I 0) (q_I 288) = some (q_h L xs (q_cp s (q' + 6) 0 (q + 6) 0 288) O c) := q_cpi (st_A6 h') (st_A6 h) (by decide) (by decide) (by decide) (by decide) (by decide) (by decide) (by decide)
theorem st_c7 (h : isS q) (h' : isS q') : ex_cpi (q_h L xs s O c) (q' + 7) (q_I 0) (q + 7) (q_I 0) (q_I 288) = some (q_h L xs (q_cp s (q' + 7) 0 (q + 7) 0 288) O c) := q_cpi (st_A7 h') (st_A7 h) (by decide) (by decide) (by decide) (by decide) (by decide) (by decide) (by decide)
theorem st_c8 (h : isS q) (h' : isS q') : ex_cpi (q_h L xs s O c) (q' + 8) (q_I 0) (q + 8) (q_I 0) (q_I 8) = some (q_h L xs (q_cp s (q' + 8) 0 (q + 8) 0 8) O c) := q_cpi (st_A8 h') (st_A8 h) (by decide) (by decide) (by decide) (by decide) (by decide) (by decide) (by decide)
theorem st_c9 (h : isS q) (h' : isS q') : ex_cpi (q_h L xs s O c) (q' + 9) (q_I 0) (q + 9) (q_I 0) (q_I 4) = some (q_h L xs (q_cp s (q' + 9) 0 (q + 9) 0 4) O c) := q_cpi (st_A9 h') (st_A9 h) (by decide) (by decide) (by decide) (by decide) (by decide) (by decide) (by decide)
theorem st_c10 (h : isS q) (h' : isS q') : ex_cpi (q_h L xs s O c) (q' + 10) (q_I 0) (q + 10) (q_I 0) (q_I 4) = some (q_h L xs (q_cp s (q' + 10) 0 (q + 10) 0 4) O c) := q_cpi (st_A10 h') (st_A10 h) (by decide) (by decide) (by decide) (by decide) (by decide) (by decide) (by decide)
theorem st_c11 (h : isS q) (h' : isS q') : ex_cpi (q_h L xs s O c) (q' + 11) (q_I 0) (q + 11) (q_I 0) (q_I 12) = some (q_h L xs (q_cp s (q' + 11) 0 (q + 11) 0 12) O c) := q_cpi (st_A11 h') (st_A11 h) (by decide) (by decide) (by decide) (by decide) (by decide) (by decide) (by decide)
theorem st_c12 (h : isS q) (h' : isS q') : ex_cpi (q_h L xs s O c) (q' + 12) (q_I 0) (q + 12) (q_I 0) (q_I 12) = some (q_h L xs (q_cp s (q' + 12) 0 (q + 12) 0 12) O c) := q_cpi (st_A12 h') (st_A12 h) (by decide) (by decide) (by decide) (by decide) (by decide) (by decide) (by decide)
theorem st_c13 (h : isS q) (h' : isS q') : ex_cpi (q_h L xs s O c) (q' + 13) (q_I 0) (q + 13) (q_I 0) (q_I 240) = some (q_h L xs (q_cp s (q' + 13) 0 (q + 13) 0 240) O c) := q_cpi (st_A13 h') (st_A13 h) (by decide) (by decide) (by decide) (by decide) (by decide) (by decide) (by decide)
theorem st_rd (h : isS q) (r : List Value) : ex_rc (q_h L xs s O c) 2 (.ref (q + 1) :: r) = true := q_rcv (st_D h) r
theorem st_rs (h : isS q) (r : List Value) : ex_rc (q_h L xs s O c) 9 (.ref q :: r) = true := q_rcv (st_B h) r
end CPY
def cpD (s : Nat → Int → Int32) (q q' : Nat) : Nat → Int → Int32 := q_cp (q_cp (q_cp (q_cp (q_cp (q_cp (q_cp (s) (q' + 2) 0 (q + 2) 0 48) (q' + 3) 0 (q + 3) 0 48) (q' + 4) 0 (q + 4) 0 48) (q' + 5) 0 (q + 5) 0 48) (q' + 6) 0 (q + 6) 0 288) (q' + 7) 0 (q + 7) 0 288) (q' + 8) 0 (q + 8) 0 8
def cpA (s : Nat → Int → Int32) (q q' : Nat) : Nat → Int → Int32 := q_cp (q_cp (q_cp (q_cp (q_cp (cpD s q q') (q' + 9) 0 (q + 9) 0 4) (q' + 10) 0 (q + 10) 0 4) (q' + 11) 0 (q + 11) 0 12) (q' + 12) 0 (q + 12) 0 12) (q' + 13) 0 (q + 13) 0 240
def cpS (s : Nat → Int → Int32) (q q' : Nat) : Nat → Int → Int32 := q_u (q_u (q_u (q_u (q_u (q_u (q_u (q_u (cpA s q q') q 5 (q_g s q' 5)) q 6 (q_g s q' 6)) q 7 (q_g s q' 7)) q 8 (q_g s q' 8)) q 9 (q_g s q' 9)) q 10 (q_g s q' 10)) q 12 (q_g s q' 12)) q 13 (q_g s q' 13)
section CPY2
variable {d L : Nat} {xs : Nat → Int32} {s : Nat → Int → Int32} {O : Nat → Int64} {c : Bool × Nat × Nat} {q q' : Nat}
theorem cc_copyD (h : isS q) (h' : isS q') : EV (d + 1) 34 0 [.ref (q + 1), .ref (q' + 1)] [] (q_h L xs s O c) = some (.inl none, q_h L xs (cpD s q q') O c) := by
  simp (disch := first | omega | exact q_b_01 _) only [↓reduceIte, q_bk0, q_bk1, q_bk2, q_sg_b, q_b_0, q_b_n0, q_b_1, q_b_n1, q_b_T, q_b_F, q_sg_g, q_sg_sg, q_sg_xs, q_sg_id, q_gu_ne, q_gu_eq, q_g_fne, q_g_cpe, q_w_f, q_v_f, q_u_f, q_fn_f, q_cp_f, q_sg_pg, q_sg_hc, q_lt_t, q_lt_f, q_le_t, q_le_f, q_eq_t, q_eq_f, ne_eq, eq_self, Bool.false_eq_true, Bool.true_eq_false, not_true_eq_false, not_false_eq_true, true_and, and_true, false_and, and_false, true_or, or_true, false_or, or_false, if_true, if_false, Int.reduceAdd, Int.reduceMul, Int.reduceSub, Int.reduceNeg, R_34_0, R_34_4, R_34_9, R_34_15, R_34_19, R_34_24, R_34_30, R_34_34, R_34_39, R_34_45, R_34_49, R_34_54, R_34_60, R_34_64, R_34_69, R_34_76, R_34_80, R_34_85, R_34_92, R_34_96, R_34_101, R_34_107, C_34_12, C_34_27, C_34_42, C_34_57, C_34_73, C_34_89, C_34_104, st_d0 h, st_d0 h', st_d1 h, st_d1 h', st_d2 h, st_d2 h', st_d3 h, st_d3 h', st_d4 h, st_d4 h', st_d5 h, st_d5 h', st_d6 h, st_d6 h', st_c2 h h', st_c3 h h', st_c4 h h', st_c5 h h', st_c6 h h', st_c7 h h', st_c8 h h']
  rfl
theorem q_cp_n {k1 : Nat} {a : Int} {k2 : Nat} {b n : Int} {k : Nat} (h : k ≠ k2) : q_cp s k1 a k2 b n k = s k := by
  funext z
  unfold q_cp
  rw [if_neg (fun e => h e.1)]
theorem q_g_cp0 {k1 k2 : Nat} {n z : Int} (h0 : 0 ≤ z) (h1 : z < n) : q_g (q_cp s k1 0 k2 0 n) k2 z = q_g s k1 z := by
  rw [q_g_cp, if_pos ⟨rfl, h0, by omega⟩, show z - 0 + 0 = z by omega]
theorem isS_dis (h : isS q) (h' : isS q') (hne : q ≠ q') : q + 14 ≤ q' ∨ q' + 14 ≤ q := by
  unfold isS at h h'
  omega
theorem cpA_f {k : Nat} (h : k < q + 2 ∨ q + 13 < k) : q_g (cpA s q q') k = q_g s k := by
  unfold cpA cpD
  simp (disch := first | omega | exact q_b_01 _) only [q_cp_f]
theorem cc_copyFrom (h : isS q) (h' : isS q') (hne : q ≠ q') : EV (d + 2) 104 0 [.ref q, .ref q'] [] (q_h L xs s O c) = some (.inl none, q_h L xs (cpS s q q') O c) := by
  have hd := isS_dis h h' hne
  have eA : q_cp (q_cp (q_cp (q_cp (q_cp (cpD s q q') (q' + 9) 0 (q + 9) 0 4) (q' + 10) 0 (q + 10) 0 4) (q' + 11) 0 (q + 11) 0 12) (q' + 12) 0 (q + 12) 0 12) (q' + 13) 0 (q + 13) 0 240 = cpA s q q' := rfl
  simp (disch := first | omega | exact q_b_01 _) only [↓reduceIte, q_bk0, q_bk1, q_bk2, q_sg_b, q_b_0, q_b_n0, q_b_1, q_b_n1, q_b_T, q_b_F, q_sg_g, q_sg_sg, q_sg_xs, q_sg_id, q_gu_ne, q_gu_eq, q_g_fne, q_g_cpe, q_w_f, q_v_f, q_u_f, q_fn_f, q_cp_f, q_sg_pg, q_sg_hc, q_lt_t, q_lt_f, q_le_t, q_le_f, q_eq_t, q_eq_f, ne_eq, eq_self, Bool.false_eq_true, Bool.true_eq_false, not_true_eq_false, not_false_eq_true, true_and, and_true, false_and, and_false, true_or, or_true, false_or, or_false, if_true, if_false, Int.reduceAdd, Int.reduceMul, Int.reduceSub, Int.reduceNeg, R_104_0, R_104_4, R_104_11, R_104_15, R_104_20, R_104_25, R_104_29, R_104_34, R_104_39, R_104_43, R_104_48, R_104_54, R_104_58, R_104_63, R_104_69, R_104_73, R_104_78, R_104_85, R_104_90, R_104_93, R_104_98, R_104_101, R_104_106, R_104_109, R_104_114, R_104_117, R_104_122, R_104_125, R_104_130, R_104_133, R_104_138, R_104_141, R_104_146, R_104_149, C_104_8, C_104_22, C_104_36, C_104_51, C_104_66, C_104_82, st_g0 h, st_g0 h', st_g1 h, st_g1 h', st_g2 h, st_g2 h', st_g3 h, st_g3 h', st_g4 h, st_g4 h', st_g11 h, st_g11 h', st_g5 h, st_g5 h', st_g6 h, st_g6 h', st_g7 h, st_g7 h', st_g8 h, st_g8 h', st_g9 h, st_g9 h', st_g10 h, st_g10 h', st_g12 h, st_g12 h', st_g13 h, st_g13 h', st_p5 h, st_p6 h, st_p7 h, st_p8 h, st_p9 h, st_p10 h, st_p12 h, st_p13 h, st_c9 h h', st_c10 h h', st_c11 h h', st_c12 h h', st_c13 h h', st_rd h, st_rd h', cc_copyD h h', eA, cpA_f]
  rfl
theorem cpS_n {k : Nat} {z : Int} (h : k < q ∨ q + 13 < k) : cpS s q q' k z = s k z := by
  unfold cpS cpA cpD q_u q_cp
  simp only [show ¬ k = q by omega, show ¬ k = q + 2 by omega, show ¬ k = q + 3 by omega, show ¬ k = q + 4 by omega, show ¬ k = q + 5 by omega, show ¬ k = q + 6 by omega, show ¬ k = q + 7 by omega, show ¬ k = q + 8 by omega, show ¬ k = q + 9 by omega, show ¬ k = q + 10 by omega, show ¬ k = q + 11 by omega, show ¬ k = q + 12 by omega, show ¬ k = q + 13 by omega, false_and, if_false]
theorem cpS_c {k : Nat} (h : k < q ∨ q + 13 < k) : cpS s q q' k = s k := funext fun z => cpS_n h
theorem cpS_2 (hd : q + 14 ≤ q' ∨ q' + 14 ≤ q) {z : Int} (h0 : 0 ≤ z) (h1 : z < 48) : q_g (cpS s q q') (q + 2) z = q_g s (q' + 2) z := by
  unfold cpS cpA cpD
  simp (disch := first | omega | exact q_b_01 _) only [q_gu_ne, q_g_cpe, q_g_cp0]
theorem cpS_3 (hd : q + 14 ≤ q' ∨ q' + 14 ≤ q) {z : Int} (h0 : 0 ≤ z) (h1 : z < 48) : q_g (cpS s q q') (q + 3) z = q_g s (q' + 3) z := by
  unfold cpS cpA cpD
  simp (disch := first | omega | exact q_b_01 _) only [q_gu_ne, q_g_cpe, q_g_cp0]
theorem cpS_4 (hd : q + 14 ≤ q' ∨ q' + 14 ≤ q) {z : Int} (h0 : 0 ≤ z) (h1 : z < 48) : q_g (cpS s q q') (q + 4) z = q_g s (q' + 4) z := by
  unfold cpS cpA cpD
  simp (disch := first | omega | exact q_b_01 _) only [q_gu_ne, q_g_cpe, q_g_cp0]
theorem cpS_5 (hd : q + 14 ≤ q' ∨ q' + 14 ≤ q) {z : Int} (h0 : 0 ≤ z) (h1 : z < 48) : q_g (cpS s q q') (q + 5) z = q_g s (q' + 5) z := by
  unfold cpS cpA cpD
  simp (disch := first | omega | exact q_b_01 _) only [q_gu_ne, q_g_cpe, q_g_cp0]
theorem cpS_6 (hd : q + 14 ≤ q' ∨ q' + 14 ≤ q) {z : Int} (h0 : 0 ≤ z) (h1 : z < 288) : q_g (cpS s q q') (q + 6) z = q_g s (q' + 6) z := by
  unfold cpS cpA cpD
  simp (disch := first | omega | exact q_b_01 _) only [q_gu_ne, q_g_cpe, q_g_cp0]
theorem cpS_7 (hd : q + 14 ≤ q' ∨ q' + 14 ≤ q) {z : Int} (h0 : 0 ≤ z) (h1 : z < 288) : q_g (cpS s q q') (q + 7) z = q_g s (q' + 7) z := by
  unfold cpS cpA cpD
  simp (disch := first | omega | exact q_b_01 _) only [q_gu_ne, q_g_cpe, q_g_cp0]
theorem cpS_8 (hd : q + 14 ≤ q' ∨ q' + 14 ≤ q) {z : Int} (h0 : 0 ≤ z) (h1 : z < 8) : q_g (cpS s q q') (q + 8) z = q_g s (q' + 8) z := by
  unfold cpS cpA cpD
  simp (disch := first | omega | exact q_b_01 _) only [q_gu_ne, q_g_cpe, q_g_cp0]
theorem cpS_9 (hd : q + 14 ≤ q' ∨ q' + 14 ≤ q) {z : Int} (h0 : 0 ≤ z) (h1 : z < 4) : q_g (cpS s q q') (q + 9) z = q_g s (q' + 9) z := by
  unfold cpS cpA cpD
  simp (disch := first | omega | exact q_b_01 _) only [q_gu_ne, q_g_cpe, q_g_cp0]
theorem cpS_10 (hd : q + 14 ≤ q' ∨ q' + 14 ≤ q) {z : Int} (h0 : 0 ≤ z) (h1 : z < 4) : q_g (cpS s q q') (q + 10) z = q_g s (q' + 10) z := by
  unfold cpS cpA cpD
  simp (disch := first | omega | exact q_b_01 _) only [q_gu_ne, q_g_cpe, q_g_cp0]
theorem cpS_11 (hd : q + 14 ≤ q' ∨ q' + 14 ≤ q) {z : Int} (h0 : 0 ≤ z) (h1 : z < 12) : q_g (cpS s q q') (q + 11) z = q_g s (q' + 11) z := by
  unfold cpS cpA cpD
  simp (disch := first | omega | exact q_b_01 _) only [q_gu_ne, q_g_cpe, q_g_cp0]
theorem cpS_12 (hd : q + 14 ≤ q' ∨ q' + 14 ≤ q) {z : Int} (h0 : 0 ≤ z) (h1 : z < 12) : q_g (cpS s q q') (q + 12) z = q_g s (q' + 12) z := by
  unfold cpS cpA cpD
  simp (disch := first | omega | exact q_b_01 _) only [q_gu_ne, q_g_cpe, q_g_cp0]
theorem cpS_13 (hd : q + 14 ≤ q' ∨ q' + 14 ≤ q) {z : Int} (h0 : 0 ≤ z) (h1 : z < 240) : q_g (cpS s q q') (q + 13) z = q_g s (q' + 13) z := by
  unfold cpS cpA cpD
  simp (disch := first | omega | exact q_b_01 _) only [q_gu_ne, q_g_cpe, q_g_cp0]
theorem cpS_F (hd : q + 14 ≤ q' ∨ q' + 14 ≤ q) {z : Int} (h : z = 5 ∨ z = 6 ∨ z = 7 ∨ z = 8 ∨ z = 9 ∨ z = 10 ∨ z = 12 ∨ z = 13) : q_g (cpS s q q') q z = q_g s q' z := by
  unfold cpS
  rcases h with e | e | e | e | e | e | e | e <;> subst e <;> simp (disch := first | omega | exact q_b_01 _) only [q_gu_ne, q_gu_eq, q_sg_g]
theorem RB_cpS {m m' : Int → Int} {b : Int} (I : Inv m b) (h : ∀ z, 0 ≤ z → z < 1049 → m' z = m z) (H : RB m s q') (hd : q + 14 ≤ q' ∨ q' + 14 ≤ q) : RB m' (cpS s q q') q :=
  RB_cp I h H (fun z a b => ⟨cpS_2 hd a b, cpS_3 hd a b, cpS_4 hd a b, cpS_5 hd a b⟩) (fun z a b => ⟨cpS_6 hd a b, cpS_7 hd a b⟩) (fun z a b => cpS_8 hd a b) (fun z a b => ⟨cpS_9 hd a b, cpS_10 hd a b⟩) (fun z a b => ⟨cpS_11 hd a b, cpS_12 hd a b⟩) (fun z a b => cpS_13 hd a b) (fun z hz => cpS_F hd hz)
theorem r72_S {z : Int} (h0 : 0 ≤ z) (h1 : z < 12) : isS (q_r72 z) := by
  unfold isS q_r72
  omega
theorem cc_remember (a0 : 0 ≤ q_g s 71 1) (a1 : q_g s 71 1 ≤ 12) (n0 : 0 ≤ q_g s 71 2) (n1 : q_g s 71 2 < 12) : EV (d + 3) 65 0 [.ref 71, .ref 7] [] (q_h L xs s O c) = some (.inl none, q_h L xs (q_u (q_u (cpS s (q_r72 (q_g s 71 2)) 7) 71 2 ((q_g s 71 2 + 1) % 12)) 71 1 (if q_g s 71 1 < 12 then q_g s 71 1 + 1 else 12)) O c) := by
  have hS := r72_S n0 n1
  have h7 : isS 7 := Or.inl rfl
  have hr : 73 ≤ q_r72 (q_g s 71 2) := by unfold q_r72; omega
  have e1 : q_rm (q_g s 71 2 + 1) 12 = (q_g s 71 2 + 1) % 12 := by
    unfold q_rm
    rw [q_sg_id (by omega) (by omega), q_sg_id (by omega) (by omega), Int.tmod_eq_emod_of_nonneg (by omega)]
  have e2 : q_g s 71 2 % 12 = q_g s 71 2 := by omega
  have e3 : ∀ z, q_g (cpS s (q_r72 (q_g s 71 2)) 7) 71 z = q_g s 71 z := fun z => by
    show (cpS s (q_r72 (q_g s 71 2)) 7 71 z).toInt = _
    rw [cpS_n (by omega)]
    rfl
  by_cases h : q_g s 71 1 < 12
  · simp (disch := first | omega | exact q_b_01 _) only [↓reduceIte, q_bk0, q_bk1, q_bk2, q_sg_b, q_b_0, q_b_n0, q_b_1, q_b_n1, q_b_T, q_b_F, q_sg_g, q_sg_sg, q_sg_xs, q_sg_id, q_gu_ne, q_gu_eq, q_g_fne, q_g_cpe, q_w_f, q_v_f, q_u_f, q_fn_f, q_cp_f, q_sg_pg, q_sg_hc, q_lt_t, q_lt_f, q_le_t, q_le_f, q_eq_t, q_eq_f, ne_eq, eq_self, Bool.false_eq_true, Bool.true_eq_false, not_true_eq_false, not_false_eq_true, true_and, and_true, false_and, and_false, true_or, or_true, false_or, or_false, if_true, if_false, Int.reduceAdd, Int.reduceMul, Int.reduceSub, Int.reduceNeg, e1, e2, e3, R_65_0, R_65_13, R_65_14, R_65_18, R_65_28, R_65_31, R_65_43, R_65_46, C_65_10, C_65_15, C_65_40, jj_floorMod, jj_min, st_rs hS, cc_copyFrom hS h7]
    rw [show (if q_g s 71 1 + 1 < 12 then q_g s 71 1 + 1 else 12) = q_g s 71 1 + 1 by split <;> omega]
  · simp (disch := first | omega | exact q_b_01 _) only [↓reduceIte, q_bk0, q_bk1, q_bk2, q_sg_b, q_b_0, q_b_n0, q_b_1, q_b_n1, q_b_T, q_b_F, q_sg_g, q_sg_sg, q_sg_xs, q_sg_id, q_gu_ne, q_gu_eq, q_g_fne, q_g_cpe, q_w_f, q_v_f, q_u_f, q_fn_f, q_cp_f, q_sg_pg, q_sg_hc, q_lt_t, q_lt_f, q_le_t, q_le_f, q_eq_t, q_eq_f, ne_eq, eq_self, Bool.false_eq_true, Bool.true_eq_false, not_true_eq_false, not_false_eq_true, true_and, and_true, false_and, and_false, true_or, or_true, false_or, or_false, if_true, if_false, Int.reduceAdd, Int.reduceMul, Int.reduceSub, Int.reduceNeg, e1, e2, e3, R_65_0, R_65_13, R_65_14, R_65_18, R_65_28, R_65_31, R_65_43, R_65_46, C_65_10, C_65_15, C_65_40, jj_floorMod, jj_min, st_rs hS, cc_copyFrom hS h7]
theorem q_fn_n {k : Nat} {lo hi : Int} {f : Int → Int} {k' : Nat} {z : Int} (h : ¬ (k' = k ∧ lo ≤ z ∧ z < hi)) : q_fn s k lo hi f k' z = s k' z := if_neg h
theorem mm_remL {A : Int} (hA : q_g s 285 6 = A) (a0 : 0 ≤ A) (a1 : A < 12) : EV (d) 303 52 [.ref 285, .int (q_I (0))] [] (q_h L xs s O c) = some (.inl none, q_h L xs (q_u (q_fn s 289 (1049 * A) (1049 * A + 1049) (fun z => q_g s 286 (z - 1049 * A))) 285 6 (A + 1)) O c) := by
  obtain ⟨t, e1, e2⟩ := q_for (fun j t => EV (d) 303 52 [.ref 285, .int (q_I (j))] [] (q_h L xs (t) O c)) (fun j t => t = q_fn s 289 (1049 * A) (1049 * A + j) (fun z => q_g s 286 (z - 1049 * A))) (lo := 0) (hi := 1049) (by omega) (fun j t h1 h2 et => by
    have g1 : q_g t 285 6 = A := by rw [et, q_g_fne (by omega), hA]
    have g2 : q_g t 286 j = q_g s 286 j := by rw [et, q_g_fne (by omega)]
    refine ⟨_, ?_, rfl⟩
    rw [R_303_52]
    simp (disch := first | omega | exact q_b_01 _) only [↓reduceIte, q_bk0, q_bk1, q_bk2, q_sg_b, q_b_0, q_b_n0, q_b_1, q_b_n1, q_b_T, q_b_F, q_sg_g, q_sg_sg, q_sg_xs, q_sg_id, q_gu_ne, q_gu_eq, q_g_fne, q_g_cpe, q_w_f, q_v_f, q_u_f, q_fn_f, q_cp_f, q_sg_pg, q_sg_hc, q_lt_t, q_lt_f, q_le_t, q_le_f, q_eq_t, q_eq_f, ne_eq, eq_self, Bool.false_eq_true, Bool.true_eq_false, not_true_eq_false, not_false_eq_true, true_and, and_true, false_and, and_false, true_or, or_true, false_or, or_false, if_true, if_false, Int.reduceAdd, Int.reduceMul, Int.reduceSub, Int.reduceNeg, g1, g2, R_303_0, R_303_9, R_303_18, R_303_33, R_303_34, R_303_40, R_303_50, R_303_59, R_303_79, R_303_80, R_303_86, R_303_96]
    rw [← Int.add_assoc, ← q_fn_1 s 289 (lo := 1049 * A) (j := 1049 * A + j) (v := q_g s 286 j) (fun z => q_g s 286 (z - 1049 * A)) (by omega) (by rw [show 1049 * A + j - 1049 * A = j by omega]), et]) (t := s) (by rw [Int.add_zero, q_fn_0])
  refine Eq.trans e1 ?_
  have g1 : q_g t 285 6 = A := by rw [e2, q_g_fne (by omega), hA]
  rw [R_303_52]
  simp (disch := first | omega | exact q_b_01 _) only [↓reduceIte, q_bk0, q_bk1, q_bk2, q_sg_b, q_b_0, q_b_n0, q_b_1, q_b_n1, q_b_T, q_b_F, q_sg_g, q_sg_sg, q_sg_xs, q_sg_id, q_gu_ne, q_gu_eq, q_g_fne, q_g_cpe, q_w_f, q_v_f, q_u_f, q_fn_f, q_cp_f, q_sg_pg, q_sg_hc, q_lt_t, q_lt_f, q_le_t, q_le_f, q_eq_t, q_eq_f, ne_eq, eq_self, Bool.false_eq_true, Bool.true_eq_false, not_true_eq_false, not_false_eq_true, true_and, and_true, false_and, and_false, true_or, or_true, false_or, or_false, if_true, if_false, Int.reduceAdd, Int.reduceMul, Int.reduceSub, Int.reduceNeg, g1, R_303_0, R_303_9, R_303_18, R_303_33, R_303_34, R_303_40, R_303_50, R_303_59, R_303_79, R_303_80, R_303_86, R_303_96]
  rw [e2]
theorem mm_remembers {A : Int} (hA : q_g s 285 6 = A) (a0 : 0 ≤ A) (a1 : A ≤ 12) : ∃ t, EV (d) 303 0 [.ref 285, .null] [] (q_h L xs s O c) = some (.inl none, q_h L xs (t) O c) ∧ q_g t 285 6 = (if A < 12 then A + 1 else 12) ∧ (∀ k z, k ≠ 289 → ¬ (k = 285 ∧ z = 6) → t k z = s k z) ∧ (∀ j z, 0 ≤ j → j < (if A < 12 then A + 1 else 12) - 1 → 0 ≤ z → z < 1049 → q_g t 289 (1049 * j + z) = q_g s 289 (1049 * (if A < 12 then j else j + 1) + z)) ∧ ∀ z, 0 ≤ z → z < 1049 → q_g t 289 (1049 * ((if A < 12 then A + 1 else 12) - 1) + z) = q_g s 286 z := by
  by_cases h : A < 12
  · simp only [if_pos h]
    have E : EV (d) 303 0 [.ref 285, .null] [] (q_h L xs s O c) = some (.inl none, q_h L xs (q_u (q_fn s 289 (1049 * A) (1049 * A + 1049) (fun z => q_g s 286 (z - 1049 * A))) 285 6 (A + 1)) O c) := by
      simp (disch := first | omega | exact q_b_01 _) only [↓reduceIte, q_bk0, q_bk1, q_bk2, q_sg_b, q_b_0, q_b_n0, q_b_1, q_b_n1, q_b_T, q_b_F, q_sg_g, q_sg_sg, q_sg_xs, q_sg_id, q_gu_ne, q_gu_eq, q_g_fne, q_g_cpe, q_w_f, q_v_f, q_u_f, q_fn_f, q_cp_f, q_sg_pg, q_sg_hc, q_lt_t, q_lt_f, q_le_t, q_le_f, q_eq_t, q_eq_f, ne_eq, eq_self, Bool.false_eq_true, Bool.true_eq_false, not_true_eq_false, not_false_eq_true, true_and, and_true, false_and, and_false, true_or, or_true, false_or, or_false, if_true, if_false, Int.reduceAdd, Int.reduceMul, Int.reduceSub, Int.reduceNeg, hA, R_303_0, R_303_9, R_303_18, R_303_33, R_303_34, R_303_40, R_303_50, R_303_59, R_303_79, R_303_80, R_303_86, R_303_96]
      exact mm_remL hA a0 h
    refine ⟨_, E, ?_, fun k z k1 k2 => ?_, fun j z j0 j1 z0 z1 => ?_, fun z z0 z1 => ?_⟩
    · rw [q_gu_eq rfl, q_sg_id (by omega) (by omega)]
    · rw [q_u_n (by omega), q_fn_n (by omega)]
    · rw [q_gu_ne (by omega), q_g_fne (by omega)]
    · rw [q_gu_ne (by omega), q_g_fn, if_pos (by omega), q_sg_g, show 1049 * (A + 1 - 1) + z - 1049 * A = z by omega]
  · have e12 : A = 12 := by omega
    subst e12
    simp only [if_neg h]
    obtain ⟨t, e1, e2⟩ := q_for (fun j t => EV (d) 303 11 [.ref 285, .int (q_I (j))] [] (q_h L xs (t) O c)) (fun j t => t = q_fn s 289 0 j (fun z => q_g s 289 (z + 1049))) (lo := 0) (hi := 11539) (by omega) (fun j t h1 h2 et => by
      have g2 : q_g t 289 (j + 1049) = q_g s 289 (j + 1049) := by rw [et, q_g_fne (by omega)]
      refine ⟨_, ?_, rfl⟩
      rw [R_303_11]
      simp (disch := first | omega | exact q_b_01 _) only [↓reduceIte, q_bk0, q_bk1, q_bk2, q_sg_b, q_b_0, q_b_n0, q_b_1, q_b_n1, q_b_T, q_b_F, q_sg_g, q_sg_sg, q_sg_xs, q_sg_id, q_gu_ne, q_gu_eq, q_g_fne, q_g_cpe, q_w_f, q_v_f, q_u_f, q_fn_f, q_cp_f, q_sg_pg, q_sg_hc, q_lt_t, q_lt_f, q_le_t, q_le_f, q_eq_t, q_eq_f, ne_eq, eq_self, Bool.false_eq_true, Bool.true_eq_false, not_true_eq_false, not_false_eq_true, true_and, and_true, false_and, and_false, true_or, or_true, false_or, or_false, if_true, if_false, Int.reduceAdd, Int.reduceMul, Int.reduceSub, Int.reduceNeg, g2, R_303_0, R_303_9, R_303_18, R_303_33, R_303_34, R_303_40, R_303_50, R_303_59, R_303_79, R_303_80, R_303_86, R_303_96]
      rw [← q_fn_1 s 289 (lo := 0) (j := j) (v := q_g s 289 (j + 1049)) (fun z => q_g s 289 (z + 1049)) (by omega) rfl, et]) (t := s) (by rw [q_fn_0])
    have g1 : q_g t 285 6 = 12 := by rw [e2, q_g_fne (by omega), hA]
    have g3 : q_g (q_u t 285 6 (12 - 1)) 285 6 = 11 := by rw [q_gu_eq rfl]; decide
    have e3 := mm_remL (d := d) (L := L) (xs := xs) (O := O) (c := c) g3 (by omega) (by omega)
    have E : EV (d) 303 0 [.ref 285, .null] [] (q_h L xs s O c) = EV (d) 303 52 [.ref 285, .int (q_I (0))] [] (q_h L xs (q_u t 285 6 (12 - 1)) O c) := by
      simp (disch := first | omega | exact q_b_01 _) only [↓reduceIte, q_bk0, q_bk1, q_bk2, q_sg_b, q_b_0, q_b_n0, q_b_1, q_b_n1, q_b_T, q_b_F, q_sg_g, q_sg_sg, q_sg_xs, q_sg_id, q_gu_ne, q_gu_eq, q_g_fne, q_g_cpe, q_w_f, q_v_f, q_u_f, q_fn_f, q_cp_f, q_sg_pg, q_sg_hc, q_lt_t, q_lt_f, q_le_t, q_le_f, q_eq_t, q_eq_f, ne_eq, eq_self, Bool.false_eq_true, Bool.true_eq_false, not_true_eq_false, not_false_eq_true, true_and, and_true, false_and, and_false, true_or, or_true, false_or, or_false, if_true, if_false, Int.reduceAdd, Int.reduceMul, Int.reduceSub, Int.reduceNeg, hA, R_303_0, R_303_9, R_303_18, R_303_33, R_303_34, R_303_40, R_303_50, R_303_59, R_303_79, R_303_80, R_303_86, R_303_96]
      refine Eq.trans e1 ?_
      rw [R_303_11]
      simp (disch := first | omega | exact q_b_01 _) only [↓reduceIte, q_bk0, q_bk1, q_bk2, q_sg_b, q_b_0, q_b_n0, q_b_1, q_b_n1, q_b_T, q_b_F, q_sg_g, q_sg_sg, q_sg_xs, q_sg_id, q_gu_ne, q_gu_eq, q_g_fne, q_g_cpe, q_w_f, q_v_f, q_u_f, q_fn_f, q_cp_f, q_sg_pg, q_sg_hc, q_lt_t, q_lt_f, q_le_t, q_le_f, q_eq_t, q_eq_f, ne_eq, eq_self, Bool.false_eq_true, Bool.true_eq_false, not_true_eq_false, not_false_eq_true, true_and, and_true, false_and, and_false, true_or, or_true, false_or, or_false, if_true, if_false, Int.reduceAdd, Int.reduceMul, Int.reduceSub, Int.reduceNeg, g1, R_303_0, R_303_9, R_303_18, R_303_33, R_303_34, R_303_40, R_303_50, R_303_59, R_303_79, R_303_80, R_303_86, R_303_96]
    refine ⟨_, E.trans e3, ?_, fun k z k1 k2 => ?_, fun j z j0 j1 z0 z1 => ?_, fun z z0 z1 => ?_⟩
    · rw [q_gu_eq rfl]
      decide
    · rw [q_u_n (by omega), q_fn_n (by omega), q_u_n (by omega), e2, q_fn_n (by omega)]
    · rw [q_gu_ne (by omega), q_g_fne (by omega), q_gu_ne (by omega), e2, q_g_fn, if_pos (by omega), q_sg_g, show 1049 * j + z + 1049 = 1049 * (j + 1) + z by omega]
    · rw [q_gu_ne (by omega), q_g_fn, if_pos (by omega), q_sg_g, q_gu_ne (by omega), e2, q_g_fne (by omega), show 1049 * (12 - 1) + z - 1049 * 11 = z by omega]
end CPY2
