/-! THE REFERENCE: all above a changed leaf is mended, the root too -/
section MMS
variable {d L : Nat} {xs : Nat → Int32} {s : Nat → Int → Int32} {O : Nat → Int64} {c : Bool × Nat × Nat} {D0 : Ar} {N0 key lo hi lo' hi' : Int} {h : Nat} {t : Tr} {Lf : Int → Prop} {g : Int → (Int → Int) → (Int → Int) → Tr}
theorem mm_mends (N48 : 48 ≤ q_g s 285 25) (o : Okt t h lo hi) (F : FWy key t) (S : Sub D0 N0 t (q_g s 285 26)) (hw : ∀ i : Nat, i ≤ h → q_g s 299 i = wyn D0 key t (q_g s 285 26) i) (hs : ∀ i : Nat, i < h → q_g s 300 i = sln key t i) (hL : LC D0 N0 key g (dM s) (q_g s 285 25) t (q_g s 285 26)) (hN : q_g s 285 25 + mdz key g t + (if tsz (chg key g t) = 5 then 2 else 0) ≤ 240) (h16 : h < 16) (oR : OkR (chg key g t) h lo' hi') (hl : LfM s Lf) : ∃ u, EV (d + 3) 267 0 [.ref 285, .int (q_I ((h : Int))), .null, .null, .null] [] (q_h L xs s O c) = some (.inl none, q_h L xs (u) O c) ∧ (tsz (chg key g t) = 5 → Sub (dM u) (q_g u 285 25) (topT (chg key g t)) (q_g u 285 26) ∧ LfM u Lf) ∧ (tsz (chg key g t) = 0 → q_g u 285 26 = -1 ∧ LfM u Lf) ∧ (tsz (chg key g t) ≠ 0 → tsz (chg key g t) ≠ 5 → Sub (dM u) (q_g u 285 25) (lowT (chg key g t)) (q_g u 285 26) ∧ LfM u (fun z => Lf z ∨ LPg (chg key g t) z)) ∧ q_g u 285 25 = q_g s 285 25 + mdz key g t + (if tsz (chg key g t) = 5 then 2 else 0) ∧ ∀ k z, ¬ (294 ≤ k ∧ k ≤ 297) → ¬ (k = 285 ∧ (z = 25 ∨ z = 26)) → k ≠ 301 → u k z = s k z := by
  have m0 := mdz_0 (key := key) (g := g) t
  have i5 : 0 ≤ (if tsz (chg key g t) = 5 then (2 : Int) else 0) := by split <;> omega
  obtain ⟨u1, z3, z4, a1, a2, a3, a4⟩ := mm_mendL (d := d) (L := L) (xs := xs) (O := O) (c := c) (D := (h : Int)) N48 0 (q_g s 285 26) .null .null o F S (fun i hi => by rw [Int.zero_add]; exact hw i hi) (fun i hi => by rw [Int.zero_add]; exact hs i hi) hL (by omega) (by omega) (by omega)
  have g26 : q_g u1 285 26 = q_g s 285 26 := FE_g a4 (by omega) (by omega)
  obtain ⟨u, b1, b2, b3, b4, b5, b6⟩ := mm_mendsRoot (d := d) (L := L) (xs := xs) (O := O) (c := c) (Lf := Lf) a2.1 oR rfl (by omega) (by omega) (fun e => by rw [if_pos e] at hN; omega) g26 (LfM_sm hl (fun z _ => a4 301 z (by omega) (by omega)))
  try dsimp only [Okt_e1, Okt_e2, OkR_e1, OkR_e2, FWy_e1, FWy_e2, LC_e1, LC_e2, LPg_e1, LPg_e2]
  refine ⟨u, ?_, fun e => ?_, b3, fun e1 e2 => ?_, by omega, fun k z k1 k2 k3 => by rw [b6 k z k1 k2 k3, a4 k z k1 (by omega)]⟩
  · rw [R_267_0, show (h : Int) - 1 = 0 + (h : Int) - 1 by omega, a1]
    rw [R_267_4]
    simp (disch := first | omega | exact q_b_01 _) only [↓reduceIte, q_bk0, q_bk1, q_bk2, q_sg_b, q_b_0, q_b_n0, q_b_1, q_b_n1, q_b_T, q_b_F, q_sg_g, q_sg_sg, q_sg_xs, q_sg_id, q_gu_ne, q_gu_eq, q_g_fne, q_g_cpe, q_w_f, q_v_f, q_u_f, q_fn_f, q_cp_f, q_sg_pg, q_sg_hc, q_lt_t, q_lt_f, q_le_t, q_le_f, q_eq_t, q_eq_f, ne_eq, eq_self, Bool.false_eq_true, Bool.true_eq_false, not_true_eq_false, not_false_eq_true, true_and, and_true, false_and, and_false, true_or, or_true, false_or, or_false, if_true, if_false, Int.reduceAdd, Int.reduceMul, Int.reduceSub, Int.reduceNeg, b1, R_267_0, R_267_8, R_267_16, R_267_23, R_267_26, R_267_33, R_267_42, R_267_45, R_267_57, R_267_64, R_267_71, R_267_72, R_267_78, R_267_82, R_267_85, R_267_90, R_267_99, R_267_105, R_267_114, R_267_119, R_267_122, R_267_125, R_267_129, C_267_39, C_267_68, C_267_87, C_267_111, C_267_116, C_267_126]
  · obtain ⟨x1, x2⟩ := b2 e
    rw [if_pos e] at b5
    rw [b5]
    exact ⟨x1, x2⟩
  · obtain ⟨x1, x2⟩ := b4 e1 e2
    rw [if_neg e2] at b5
    rw [b5, Int.add_zero]
    exact ⟨x1, x2⟩
end MMS
