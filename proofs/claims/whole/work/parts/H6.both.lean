/-! A PLAN CARRIED OUT, of both -/
section BTH
variable {d L : Nat} {xs : Nat → Int32} {s u u' : Nat → Int → Int32} {O : Nat → Int64} {c : Bool × Nat × Nat} {m pl y : Int → Int} {b k K sc pw pw' : Int} {T : Option Tr} {Lf Lv : Int → Prop} {dr : Bool}
theorem heap_A (h : q_h L xs u O c = q_h L xs u' O c) {k n : Nat} (hk : ly_A k n .int) (hn : n < 2147483648) {z : Int} (z0 : 0 ≤ z) (z1 : z < n) : q_g u k z = q_g u' k z := by
  have a := q_ld (L := L) (xs := xs) (s := u) (O := O) (c := c) hk z0 z1 hn
  have b := q_ld (L := L) (xs := xs) (s := u') (O := O) (c := c) hk z0 z1 hn
  rw [h] at a
  have e := Option.some.inj (a.symm.trans b)
  have e2 : q_sg (q_g u k z) = q_sg (q_g u' k z) := congrArg Int32.toInt e
  rw [q_sg_g, q_sg_g] at e2
  exact e2
theorem heap_F {z : Int} (a : some (Value.int (q_I (q_g u 7 z))) = some (Value.int (q_I (q_g u' 7 z)))) : q_g u 7 z = q_g u' 7 z := by
  have e := Option.some.inj a
  have e := Value.int.inj e
  have e2 : q_sg (q_g u 7 z) = q_sg (q_g u' 7 z) := congrArg Int32.toInt e
  rw [q_sg_g, q_sg_g] at e2
  exact e2
theorem RB_heap (h : q_h L xs u O c = q_h L xs u' O c) (H : RB m u' 7) (hr : ∀ q, 0 ≤ q → q < 48 → pg m q 1 ≤ 6) (h8 : m 8 ≤ 12) (h6 : m 6 ≤ 60) : RB m u 7 := by
  have i7 : isS 7 := Or.inl rfl
  have f5 : q_g u 7 5 = q_g u' 7 5 := heap_F ((st_g5 (L := L) (xs := xs) (s := u) (O := O) (c := c) i7).symm.trans (h ▸ st_g5 (L := L) (xs := xs) (s := u') (O := O) (c := c) i7))
  have f6 : q_g u 7 6 = q_g u' 7 6 := heap_F ((st_g6 (L := L) (xs := xs) (s := u) (O := O) (c := c) i7).symm.trans (h ▸ st_g6 (L := L) (xs := xs) (s := u') (O := O) (c := c) i7))
  have f7 : q_g u 7 7 = q_g u' 7 7 := heap_F ((st_g7 (L := L) (xs := xs) (s := u) (O := O) (c := c) i7).symm.trans (h ▸ st_g7 (L := L) (xs := xs) (s := u') (O := O) (c := c) i7))
  have f8 : q_g u 7 8 = q_g u' 7 8 := heap_F ((st_g8 (L := L) (xs := xs) (s := u) (O := O) (c := c) i7).symm.trans (h ▸ st_g8 (L := L) (xs := xs) (s := u') (O := O) (c := c) i7))
  have f9 : q_g u 7 9 = q_g u' 7 9 := heap_F ((st_g9 (L := L) (xs := xs) (s := u) (O := O) (c := c) i7).symm.trans (h ▸ st_g9 (L := L) (xs := xs) (s := u') (O := O) (c := c) i7))
  have f10 : q_g u 7 10 = q_g u' 7 10 := heap_F ((st_g10 (L := L) (xs := xs) (s := u) (O := O) (c := c) i7).symm.trans (h ▸ st_g10 (L := L) (xs := xs) (s := u') (O := O) (c := c) i7))
  have f12 : q_g u 7 12 = q_g u' 7 12 := heap_F ((st_g12 (L := L) (xs := xs) (s := u) (O := O) (c := c) i7).symm.trans (h ▸ st_g12 (L := L) (xs := xs) (s := u') (O := O) (c := c) i7))
  have f13 : q_g u 7 13 = q_g u' 7 13 := heap_F ((st_g13 (L := L) (xs := xs) (s := u) (O := O) (c := c) i7).symm.trans (h ▸ st_g13 (L := L) (xs := xs) (s := u') (O := O) (c := c) i7))
  obtain ⟨h1, h2, h3, h4, h5, h6', h7⟩ := H
  refine ⟨fun q q0 q1 => ?_, fun hh hh0 hh1 hk w w0 w1 => ?_, fun r r0 r1 => ?_, ⟨by rw [f5]; exact h4.1, fun k k0 k1 => ?_⟩, by rw [f6, f7, f8, f9, f10, f12]; exact h5, by rw [f13]; exact h6', fun a w a0 a1 w0 w1 => ?_⟩
  · obtain ⟨a1, a2, a3, a4, a5⟩ := h1 q q0 q1
    have r := hr q q0 q1
    refine ⟨by rw [heap_A h (st_A2 i7) (by decide) q0 q1]; exact a1, by rw [heap_A h (st_A3 i7) (by decide) q0 q1]; exact a2, by rw [heap_A h (st_A4 i7) (by decide) q0 q1]; exact a3, by rw [heap_A h (st_A5 i7) (by decide) q0 q1]; exact a4, fun k k0 k1 => ?_⟩
    rw [heap_A h (st_A6 i7) (by decide) (show 0 ≤ q * 6 + k by omega) (show q * 6 + k < (288 : Nat) by omega), heap_A h (st_A7 i7) (by decide) (show 0 ≤ q * 6 + k by omega) (show q * 6 + k < (288 : Nat) by omega)]
    exact a5 k k0 k1
  · rw [heap_A h (st_A8 i7) (by decide) (show 0 ≤ hh * 4 + w by omega) (show hh * 4 + w < (8 : Nat) by omega)]
    exact h2 hh hh0 hh1 hk w w0 w1
  · rw [heap_A h (st_A9 i7) (by decide) r0 r1, heap_A h (st_A10 i7) (by decide) r0 r1]
    exact h3 r r0 r1
  · rw [heap_A h (st_A11 i7) (by decide) k0 (show k < (12 : Nat) by omega), heap_A h (st_A12 i7) (by decide) k0 (show k < (12 : Nat) by omega)]
    exact h4.2 k k0 k1
  · rw [f13, heap_A h (st_A13 i7) (by decide) (show 0 ≤ (q_g u' 7 13 - 1 - a) % 60 * 4 + w by omega) (show (q_g u' 7 13 - 1 - a) % 60 * 4 + w < (240 : Nat) by omega)]
    exact h7 a w a0 a1 w0 w1
/-- power for all writes is power for all writes -/
theorem prfm_pw (h : dr = true ∨ (K < pw ∧ K < pw')) : ∀ (f : Nat) (k : Int) (y : Int → Int), K + 1 - k = f → prfm m pl K dr pw f k y = prfm m pl K dr pw' f k y
  | 0, k, y, _ => rfl
  | f + 1, k, y, hf => by
    unfold prfm
    have e : flz dr pw k (rsk m pl (wq m K k)) (y 7) ↔ flz dr pw' k (rsk m pl (wq m K k)) (y 7) := by
      unfold flz
      rcases h with h | ⟨h1, h2⟩
      · rw [if_pos h, if_pos h]
      · split
        · exact Iff.rfl
        · constructor
          · intro q
            omega
          · intro q
            omega
    by_cases c : flz dr pw k (rsk m pl (wq m K k)) (y 7)
    · rw [if_pos c, if_pos (e.mp c)]
    · rw [if_neg c, if_neg (fun q => c (e.mpr q))]
      exact prfm_pw h f (k + 1) _ (by omega)
theorem cc_co (I : Inv m b) (hb : b < 2147483646) (PT : PTo T) (pI : PlI m T Lf sc pl) (s0 : 0 ≤ sc) (s8 : sc ≤ 8) (kn : 0 ≤ cNo T) (Kc : cNo T + sc ≤ cap m) (pw0 : -2147483648 ≤ pw) (pw1 : pw < 2147483648) (P : PlanC m T Lf sc s) (hL : LawP m (q_g s 49) (q_g s 50) (q_g s 51) (q_g s 52) (q_g s 53)) (H : RB m s 7) : ∃ u, EV (d + 6) 97 0 [.ref 241, .ref 7, .ref 49, .int (q_I (pw)), .int (q_I (bI dr)), .null, .null] [] (q_h L xs s O c) = some (.inl (some (.int (q_I ((prfm m pl (cNo T + sc) dr pw (cNo T + sc + 1).toNat 0 m).1)))), q_h L xs (u) O c) ∧ RB (prfm m pl (cNo T + sc) dr pw (cNo T + sc + 1).toNat 0 m).2 u 7 ∧ CrF s u := by
  have h10 := P.2.2.2.1.1
  have ct := TK_ct (inv_tk I (by omega)) (show 0 ≤ cNo T + sc by omega) Kc
  obtain ⟨u, u1, u2, u3⟩ := cc_carry (d := d) (L := L) (xs := xs) (O := O) (c := c) (dr := dr) I hb PT pI s0 s8 kn Kc pw0 pw1 (cNo T + sc + 1).toNat 0 m s .null (by omega) (by omega) P hL (Mid_0 I) H
  refine ⟨u, ?_, u2, u3⟩
  rw [← u1]
  simp (disch := first | omega | exact q_b_01 _) only [↓reduceIte, q_bk0, q_bk1, q_bk2, q_sg_b, q_b_0, q_b_n0, q_b_1, q_b_n1, q_b_T, q_b_F, q_sg_g, q_sg_sg, q_sg_xs, q_sg_id, q_gu_ne, q_gu_eq, q_g_fne, q_g_cpe, q_w_f, q_v_f, q_u_f, q_fn_f, q_cp_f, q_sg_pg, q_sg_hc, q_lt_t, q_lt_f, q_le_t, q_le_f, q_eq_t, q_eq_f, ne_eq, eq_self, Bool.false_eq_true, Bool.true_eq_false, not_true_eq_false, not_false_eq_true, true_and, and_true, false_and, and_false, true_or, or_true, false_or, or_false, if_true, if_false, Int.reduceAdd, Int.reduceMul, Int.reduceSub, Int.reduceNeg, h10, R_97_0, R_97_9]
theorem cc_co0 {x3 x4 : Int} (h : q_g s 241 10 = 0) : EV (d) 97 0 [.ref 241, .ref 7, .ref 49, .int (q_I (x3)), .int (q_I (x4)), .null, .null] [] (q_h L xs s O c) = some (.inl (some (.int (q_I (0)))), q_h L xs (s) O c) := by
  simp (disch := first | omega | exact q_b_01 _) only [↓reduceIte, q_bk0, q_bk1, q_bk2, q_sg_b, q_b_0, q_b_n0, q_b_1, q_b_n1, q_b_T, q_b_F, q_sg_g, q_sg_sg, q_sg_xs, q_sg_id, q_gu_ne, q_gu_eq, q_g_fne, q_g_cpe, q_w_f, q_v_f, q_u_f, q_fn_f, q_cp_f, q_sg_pg, q_sg_hc, q_lt_t, q_lt_f, q_le_t, q_le_f, q_eq_t, q_eq_f, ne_eq, eq_self, Bool.false_eq_true, Bool.true_eq_false, not_true_eq_false, not_false_eq_true, true_and, and_true, false_and, and_false, true_or, or_true, false_or, or_false, if_true, if_false, Int.reduceAdd, Int.reduceMul, Int.reduceSub, Int.reduceNeg, h, R_97_0, R_97_7]
theorem mm_pfm (I : Inv m b) (hb : b < 2147483646) (PT : PTo T) (s0 : 0 ≤ sc) (s8 : sc ≤ 8) (kn : 0 ≤ cNo T) (Kc : cNo T + sc ≤ cap m) (pw0 : -2147483648 ≤ pw) (pw1 : pw < 2147483648) {g lw ln le cd : Int → Int} (hL : LawP m g lw ln le cd) (em : q_g s 286 = m) (P : PlanM m T Lf sc s) : ∃ u, EV (d + 37) 285 0 [.ref 285, .int (q_I (pw)), .int (q_I (bI dr)), .null, .null] [] (q_h L xs s O c) = some (.inl (some (.int (q_I ((prfm m (q_g s 305) (cNo T + sc) dr pw (cNo T + sc + 1).toNat 0 m).1)))), q_h L xs (u) O c) ∧ q_g u 286 = (prfm m (q_g s 305) (cNo T + sc) dr pw (cNo T + sc + 1).toNat 0 m).2 ∧ PfF s u := by
  obtain ⟨p1, p2, p3, pI⟩ := P
  have Tk := inv_tk I (by omega)
  have K0 : 0 ≤ cNo T + sc := by omega
  have ve := mm_version (d := d + 34) (L := L) (xs := xs) (s := s) (O := O) (c := c)
  rw [em] at ve
  have w06 : ∀ i, 0 ≤ i → i ≤ cNo T + sc → q_g s 306 i = wq m (cNo T + sc) i := fun i i0 i1 => by
    by_cases e : i = cNo T + sc
    · rw [e, wq_K]
      exact p3
    · obtain ⟨b1, b2, b3, b4⟩ := wq_tk Tk K0 Kc i0 (show i < cNo T + sc by omega)
      have := p2 _ b1 b2 b3
      rw [b4] at this
      exact this
  obtain ⟨u, u1, u2, u3⟩ := mm_perf (d := d) (L := L) (xs := xs) (O := O) (c := c) (dr := dr) I hb PT pI s0 s8 kn Kc pw0 pw1 hL (cNo T + sc + 1).toNat 0 m (q_u s 285 40 0) (by omega) (by omega) (by rw [q_u_f (by omega)]; exact em) (q_u_f (by omega)) (by rw [q_gu_ne (by omega)]; exact p1) (fun i i0 i1 => by rw [q_gu_ne (by omega)]; exact w06 i i0 i1) (by rw [q_gu_eq rfl]; rfl) (Mid_0 I)
  refine ⟨u, ?_, u2, fun k z a1 a2 a3 => by rw [u3 k z a1 a2 a3, q_u_n (by omega)]⟩
  rw [← u1]
  simp (disch := first | omega | exact q_b_01 _) only [↓reduceIte, q_bk0, q_bk1, q_bk2, q_sg_b, q_b_0, q_b_n0, q_b_1, q_b_n1, q_b_T, q_b_F, q_sg_g, q_sg_sg, q_sg_xs, q_sg_id, q_gu_ne, q_gu_eq, q_g_fne, q_g_cpe, q_w_f, q_v_f, q_u_f, q_fn_f, q_cp_f, q_sg_pg, q_sg_hc, q_lt_t, q_lt_f, q_le_t, q_le_f, q_eq_t, q_eq_f, ne_eq, eq_self, Bool.false_eq_true, Bool.true_eq_false, not_true_eq_false, not_false_eq_true, true_and, and_true, false_and, and_false, true_or, or_true, false_or, or_false, if_true, if_false, Int.reduceAdd, Int.reduceMul, Int.reduceSub, Int.reduceNeg, ve, R_285_0, C_285_1, R_285_4, R_285_12]
theorem mm_pfm0 {x1 x2 : Int} (h : q_g s 285 39 = 0) : EV (d + 4) 285 0 [.ref 285, .int (q_I (x1)), .int (q_I (x2)), .null, .null] [] (q_h L xs s O c) = some (.inl (some (.int (q_I (0)))), q_h L xs (q_u s 285 40 0) O c) := by
  have ve := mm_version (d := d + 1) (L := L) (xs := xs) (s := s) (O := O) (c := c)
  have g : q_g (q_u s 285 40 0) 285 39 = 0 := by rw [q_gu_ne (by omega), h]
  simp (disch := first | omega | exact q_b_01 _) only [↓reduceIte, q_bk0, q_bk1, q_bk2, q_sg_b, q_b_0, q_b_n0, q_b_1, q_b_n1, q_b_T, q_b_F, q_sg_g, q_sg_sg, q_sg_xs, q_sg_id, q_gu_ne, q_gu_eq, q_g_fne, q_g_cpe, q_w_f, q_v_f, q_u_f, q_fn_f, q_cp_f, q_sg_pg, q_sg_hc, q_lt_t, q_lt_f, q_le_t, q_le_f, q_eq_t, q_eq_f, ne_eq, eq_self, Bool.false_eq_true, Bool.true_eq_false, not_true_eq_false, not_false_eq_true, true_and, and_true, false_and, and_false, true_or, or_true, false_or, or_false, if_true, if_false, Int.reduceAdd, Int.reduceMul, Int.reduceSub, Int.reduceNeg, ve, g, R_285_0, C_285_1, R_285_4, R_285_12, R_285_15, R_285_130, R_285_143]
end BTH
