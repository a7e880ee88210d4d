/-! CHANGES COMMITTED, of both: what is remembered, what is written -/
section CM2
variable {d L : Nat} {xs : Nat → Int32} {s u : Nat → Int → Int32} {O : Nat → Int64} {c : Bool × Nat × Nat} {m : Int → Int} {b n sc pw pw' : Int} {T : Option Tr} {Lf : Int → Prop} {dr : Bool}
noncomputable def MwG (w v : Nat → Int → Int32) : Prop := ∀ k z, ¬ (292 ≤ k ∧ k ≤ 306) → ¬ (k = 285 ∧ (z = 0 ∨ z = 19 ∨ z = 25 ∨ z = 26 ∨ z = 29 ∨ z = 34 ∨ z = 35 ∨ z = 36 ∨ z = 39)) → v k z = w k z
theorem MwG_F {w v : Nat → Int → Int32} (h : MwF w v) : MwG w v := fun k z h1 h2 => h k z h1 (by omega)
theorem MwG_0 {w v : Nat → Int → Int32} {k : Int} (h : MwF (q_u w 285 0 k) v) : MwG w v := fun k z h1 h2 => by rw [h k z h1 (by omega), q_u_n (by omega)]
theorem PlnF_Sm (h : PlnF s u) : Sm s u := fun k z hz => h k z (by unfold relz relc at hz; omega)
theorem rmC_x (B : Big b u) {k : Nat} {z : Int} (h : k < 71 ∨ 240 < k) : rmC u k z = u k z := by
  have n := B.2.2.2.1
  have : 73 ≤ q_r72 (q_g u 71 2) ∧ q_r72 (q_g u 71 2) + 13 ≤ 240 := by unfold q_r72; omega
  exact rmC_n (by omega) (by omega)
theorem RB_k2 {m : Int → Int} {s t : Nat → Int → Int32} (H : RB m s 7) (h : ∀ k z, 7 ≤ k → k ≤ 20 → t k z = s k z) : RB m t 7 := rb_k H h
/-- a plan with writes -/
theorem comG (B : Big b s) (hb : b < 2147483646) (em : q_g s 286 = m) (P : PlO m b T Lf sc) (PC : PlanC m T Lf sc u) (hu : PlnF s u) (pw0 : -2147483648 ≤ pw) (pw1 : pw < 2147483648) (pw0' : -2147483648 ≤ pw') (pw1' : pw' < 2147483648) (hpw : dr = true ∨ pw = pw' ∨ (48 < pw ∧ 48 < pw')) : ∃ u2 ans, EV (d + 7) 192 0 [.ref 1, .int (q_I (pw)), .int (q_I (bI dr)), .null] [] (q_h L xs (u) O c) = some (.inl (some (.int (q_I (ans)))), q_h L xs (u2) O c) ∧ (ans = 0 ∨ ans = 1) ∧ q_g u2 286 = m ∧ ∀ (v : Nat → Int → Int32) (d : Nat) (O : Nat → Int64) (c : Bool × Nat × Nat), MwG u2 v → PlanM m T Lf sc v → ∃ t t2, EV (d + 37) 303 0 [.ref 285, .null] [] (q_h L xs (q_u v 285 0 0) O c) = some (.inl none, q_h L xs (t) O c) ∧ EV (d + 37) 285 0 [.ref 285, .int (q_I (pw')), .int (q_I (bI dr)), .null, .null] [] (q_h L xs (t) O c) = some (.inl (some (.int (q_I (ans)))), q_h L xs (t2) O c) ∧ q_g t2 285 0 = 0 ∧ q_g t2 285 39 = q_g v 285 39 ∧ Big (b + 1) (q_u t2 286 8 0) := by
  have Bu := Big_sm B (PlnF_Sm hu)
  have I := B.1.2.1
  rw [em] at I
  have eu : q_g u 286 = m := by
    rw [← em]
    exact funext fun z => by
      show (u 286 z).toInt = _
      rw [hu 286 z (by omega)]
      rfl
  have Hu := Bu.1.1
  have Lu := Bu.1.2.2
  rw [eu] at Hu Lu
  have rx : ∀ k z, k < 71 ∨ 240 < k → rmC u k z = u k z := fun k z h => rmC_x Bu h
  have rem := cc_rem (d := d + 3) (L := L) (xs := xs) (O := O) (c := c) Bu
  obtain ⟨u1, ans, a1, a2, a3, a4⟩ := both_perf (d := d) (L := L) (xs := xs) (s := rmC u) (O := O) (c := c) (dr := dr) (pw := pw) (pw' := pw') I hb P (PlanC_sm PC (fun k z h1 h2 => rx k z (by omega))) (rb_k Hu (fun k z h1 h2 => rx k z (by omega))) (LawP_sm Lu (fun k z h1 h2 => rx k z (by omega))) pw0 pw1 pw0' pw1' hpw
  have u2k : ∀ k z, ¬ (7 ≤ k ∧ k ≤ 20) → k ≠ 260 → k ≠ 54 → q_u u1 7 5 0 k z = rmC u k z := fun k z h1 h2 h3 => by rw [q_u_n (by omega), a2 k z h1 h2 h3]
  have e2 : q_g (q_u u1 7 5 0) 286 = m := by
    rw [← eu]
    exact funext fun z => by
      show (q_u u1 7 5 0 286 z).toInt = _
      rw [u2k 286 z (by omega) (by omega) (by omega), rx 286 z (by omega)]
      rfl
  refine ⟨q_u u1 7 5 0, ans, ?_, a3, e2, fun v d' O' c' hv PM => ?_⟩
  · simp (disch := first | omega | exact a3) only [↓reduceIte, q_bk0, q_bk1, q_bk2, q_sg_b, q_b_0, q_b_n0, q_b_1, q_b_n1, q_b_T, q_b_F, q_sg_g, q_sg_sg, q_sg_xs, q_sg_id, q_gu_ne, q_gu_eq, q_g_fne, q_g_cpe, q_w_f, q_v_f, q_u_f, q_fn_f, q_cp_f, q_sg_pg, q_sg_hc, q_lt_t, q_lt_f, q_le_t, q_le_f, q_eq_t, q_eq_f, ne_eq, eq_self, Bool.false_eq_true, Bool.true_eq_false, not_true_eq_false, not_false_eq_true, true_and, and_true, false_and, and_false, true_or, or_true, false_or, or_false, if_true, if_false, Int.reduceAdd, Int.reduceMul, Int.reduceSub, Int.reduceNeg, rem, a1, R_192_0, R_192_11, R_192_28, R_192_37, C_192_8, C_192_25]
  · obtain ⟨t, t1, t2, t3, t4, t5⟩ := act_mm2 (d := d' + 37) (L := L) (xs := xs) (O := O') (c := c') Bu (s2 := v) (fun k z hz hk => by
      unfold relz relc at hz
      rw [hv k z (by omega) (by omega), u2k k z hk (by omega) (by omega)])
    have et : q_g t 286 = m := by
      rw [← eu]
      exact funext t2
    have gt : ∀ k z, k ≠ 289 → ¬ (k = 285 ∧ (z = 0 ∨ z = 6)) → q_g t k z = q_g v k z := fun k z h1 h2 => by
      show (t k z).toInt = _
      rw [t3 k z h1 h2]
      rfl
    have PMt : PlanM m T Lf sc t := by
      have f5 : q_g t 305 = q_g v 305 := funext fun z => gt 305 z (by omega) (by omega)
      have f6 : q_g t 306 = q_g v 306 := funext fun z => gt 306 z (by omega) (by omega)
      unfold PlanM
      rw [f5, f6, gt 285 39 (by omega) (by omega)]
      exact PM
    obtain ⟨w, w1, w2, w3, w4, w5⟩ := a4 t d' O' c' et PMt
    refine ⟨t, w, t1, w1, ?_, ?_, ?_⟩
    · show (w 285 0).toInt = 0
      rw [w5 285 0 (by omega) (by omega) (by omega)]
      exact t4
    · show (w 285 39).toInt = _
      rw [w5 285 39 (by omega) (by omega) (by omega), t3 285 39 (by omega) (by omega)]
      rfl
    · have ew : q_g (q_u w 286 8 0) 286 = up (q_g w 286) 8 0 := by
        rw [q_g_u286]
        rfl
      refine t5 (q_u w 286 8 0) (b + 1) (by omega) (fun k z hz hk => ?_) (fun z hz => ?_) ?_ ?_
      · unfold relz relc at hz
        rw [q_u_n (by omega), w5 k z hk (by omega) (by omega)]
      · rw [ew, up_ne (by omega), w4 z (by omega), eu]
      · rw [ew]
        refine rb_k (RB_chg0 w2 w3) (fun k z h1 h2 => ?_)
        rw [q_u_n (by omega), w5 k z (by omega) (by omega) (by omega), t3 k z (by omega) (by omega), hv k z (by omega) (by omega)]
      · rw [ew]
        exact Inv_chg0 w3
/-- a plan with no write -/
theorem comN (B : Big b s) (em : q_g s 286 = m) (h10 : q_g u 241 10 = 0) (hu : PlnF s u) : ∃ u2, EV (d + 7) 192 0 [.ref 1, .int (q_I (pw)), .int (q_I (bI dr)), .null] [] (q_h L xs (u) O c) = some (.inl (some (.int (q_I (0)))), q_h L xs (u2) O c) ∧ q_g u2 286 = m ∧ ∀ (v : Nat → Int → Int32) (d : Nat) (O : Nat → Int64) (c : Bool × Nat × Nat), MwG u2 v → q_g v 285 39 = 0 → ∃ t t2, EV (d + 37) 303 0 [.ref 285, .null] [] (q_h L xs (q_u v 285 0 0) O c) = some (.inl none, q_h L xs (t) O c) ∧ EV (d + 37) 285 0 [.ref 285, .int (q_I (pw')), .int (q_I (bI dr)), .null, .null] [] (q_h L xs (t) O c) = some (.inl (some (.int (q_I (0)))), q_h L xs (t2) O c) ∧ q_g t2 285 0 = 0 ∧ q_g t2 285 39 = 0 ∧ Big (b + 1) (q_u t2 286 8 0) := by
  have Bu := Big_sm B (PlnF_Sm hu)
  have eu : q_g u 286 = m := by
    rw [← em]
    exact funext fun z => by
      show (u 286 z).toInt = _
      rw [hu 286 z (by omega)]
      rfl
  have Hu := Bu.1.1
  have I := Bu.1.2.1
  rw [eu] at Hu I
  have rx : ∀ k z, k < 71 ∨ 240 < k → rmC u k z = u k z := fun k z h => rmC_x Bu h
  have rem := cc_rem (d := d + 3) (L := L) (xs := xs) (O := O) (c := c) Bu
  have r10 : q_g (rmC u) 241 10 = 0 := by
    show (rmC u 241 10).toInt = 0
    rw [rx 241 10 (by omega)]
    exact h10
  have co := cc_co0 (d := d + 6) (L := L) (xs := xs) (s := rmC u) (O := O) (c := c) (x3 := pw) (x4 := bI dr) r10
  have e2 : q_g (q_u (rmC u) 7 5 0) 286 = m := by
    rw [← eu]
    exact funext fun z => by
      show (q_u (rmC u) 7 5 0 286 z).toInt = _
      rw [q_u_n (by omega), rx 286 z (by omega)]
      rfl
  refine ⟨q_u (rmC u) 7 5 0, ?_, e2, fun v d' O' c' hv h39 => ?_⟩
  · simp (disch := first | omega | exact q_b_01 _) only [↓reduceIte, q_bk0, q_bk1, q_bk2, q_sg_b, q_b_0, q_b_n0, q_b_1, q_b_n1, q_b_T, q_b_F, q_sg_g, q_sg_sg, q_sg_xs, q_sg_id, q_gu_ne, q_gu_eq, q_g_fne, q_g_cpe, q_w_f, q_v_f, q_u_f, q_fn_f, q_cp_f, q_sg_pg, q_sg_hc, q_lt_t, q_lt_f, q_le_t, q_le_f, q_eq_t, q_eq_f, ne_eq, eq_self, Bool.false_eq_true, Bool.true_eq_false, not_true_eq_false, not_false_eq_true, true_and, and_true, false_and, and_false, true_or, or_true, false_or, or_false, if_true, if_false, Int.reduceAdd, Int.reduceMul, Int.reduceSub, Int.reduceNeg, rem, co, R_192_0, R_192_11, R_192_28, R_192_37, C_192_8, C_192_25]
  · obtain ⟨t, t1, t2, t3, t4, t5⟩ := act_mm2 (d := d' + 37) (L := L) (xs := xs) (O := O') (c := c') Bu (s2 := v) (fun k z hz hk => by
      unfold relz relc at hz
      rw [hv k z (by omega) (by omega), q_u_n (by omega)])
    have t39 : q_g t 285 39 = 0 := by
      show (t 285 39).toInt = 0
      rw [t3 285 39 (by omega) (by omega)]
      exact h39
    have pf := mm_pfm0 (d := d' + 33) (L := L) (xs := xs) (s := t) (O := O') (c := c') (x1 := pw') (x2 := bI dr) t39
    have et : q_g t 286 = m := by
      rw [← eu]
      exact funext t2
    refine ⟨t, q_u t 285 40 0, t1, pf, by rw [q_gu_ne (by omega)]; exact t4, by rw [q_gu_ne (by omega)]; exact t39, ?_⟩
    have ew : q_g (q_u (q_u t 285 40 0) 286 8 0) 286 = up m 8 0 := by
      rw [q_g_u286, q_u_f (by omega), et]
      rfl
    refine t5 _ (b + 1) (by omega) (fun k z hz hk => ?_) (fun z hz => ?_) ?_ ?_
    · unfold relz relc at hz
      rw [q_u_n (by omega), q_u_n (by omega)]
    · rw [ew, up_ne (by omega), eu]
    · rw [ew]
      refine rb_k (RB_chg0 (rb_k Hu (fun k z h1 h2 => rx k z (by omega))) I) (fun k z h1 h2 => ?_)
      rw [q_u_n (by omega), q_u_n (by omega), t3 k z (by omega) (by omega), hv k z (by omega) (by omega)]
    · rw [ew]
      exact Inv_mono (Inv_chg0 I) (by omega)
end CM2
