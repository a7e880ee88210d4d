/-! PAIRS, of both -/
section PR2
variable {d L : Nat} {xs : Nat → Int32} {s t : Nat → Int → Int32} {O : Nat → Int64} {c : Bool × Nat × Nat} {m A : Int → Int} {b x S R r : Int}
noncomputable def Gd4 (m A : Int → Int) (S r R o : Int) : Prop := hb R o ∧ mb m r o ∧ CM m r o + A (dlt R o) = A S
noncomputable def PkA (m A : Int → Int) (S r R j y : Int) : Prop := (y = -1 ∧ ∀ o, j < o → o < 4 → ¬ Gd4 m A S r R o) ∨ (j < y ∧ y < 4 ∧ Gd4 m A S r R y ∧ ∀ o, j < o → o < y → ¬ Gd4 m A S r R o)
noncomputable def F37 (s t : Nat → Int → Int32) : Prop := ∀ k z, k ≠ 307 → t k z = s k z
/-- the partner of the least -/
theorem mm_pick (em : q_g t 286 = m) (Hv : Vw m) (hA : ∀ z, 0 ≤ z → z < 16 → q_g t 310 z = A z ∧ 0 ≤ A z ∧ A z ≤ 1000) (S0 : 0 ≤ S) (S1 : S < 16) (R0 : 0 ≤ R) (R1 : R < 16) (r0 : 0 ≤ r) (r1 : r < 4) (x0 : -1 ≤ x) (x1 : x < 4) : ∃ u y j, EV (d + 17) 335 105 [.ref 285, .int (q_I (x)), .int (q_I (S)), .int (q_I (r)), .int (q_I (R)), .int (q_I (-1)), .int (q_I (3))] [] (q_h L xs (t) O c) = EV (d + 17) 335 188 [.ref 285, .int (q_I (x)), .int (q_I (S)), .int (q_I (r)), .int (q_I (R)), .int (q_I (y)), .int (q_I (j))] [] (q_h L xs (u) O c) ∧ F37 t u ∧ ((r < 3 ∧ A R = A S ∧ y = -1) ∨ ((r = 3 ∨ A R ≠ A S) ∧ PkA m A S r R r y)) := by
  have aS := hA S S0 S1
  have aR := hA R R0 R1
  by_cases h3 : r = 3
  · refine ⟨t, -1, 3, ?_, fun _ _ _ => rfl, Or.inr ⟨Or.inl h3, Or.inl ⟨rfl, fun o o0 o1 => by omega⟩⟩⟩
    rw [R_335_105]
    simp (disch := first | omega | exact q_b_01 _) only [↓reduceIte, q_bk0, q_bk1, q_bk2, q_sg_b, q_b_0, q_b_n0, q_b_1, q_b_n1, q_b_T, q_b_F, q_sg_g, q_sg_sg, q_sg_xs, q_sg_id, q_gu_ne, q_gu_eq, q_g_fne, q_g_cpe, q_w_f, q_v_f, q_u_f, q_fn_f, q_cp_f, q_sg_pg, q_sg_hc, q_lt_t, q_lt_f, q_le_t, q_le_f, q_eq_t, q_eq_f, ne_eq, eq_self, Bool.false_eq_true, Bool.true_eq_false, not_true_eq_false, not_false_eq_true, true_and, and_true, false_and, and_false, true_or, or_true, false_or, or_false, if_true, if_false, Int.reduceAdd, Int.reduceMul, Int.reduceSub, Int.reduceNeg]
  · by_cases e : A R = A S
    · have e' : q_g t 310 R = q_g t 310 S := by rw [aR.1, aS.1, e]
      refine ⟨t, -1, 3, ?_, fun _ _ _ => rfl, Or.inl ⟨by omega, e, rfl⟩⟩
      rw [R_335_105]
      simp (disch := first | omega | exact q_b_01 _) only [↓reduceIte, q_bk0, q_bk1, q_bk2, q_sg_b, q_b_0, q_b_n0, q_b_1, q_b_n1, q_b_T, q_b_F, q_sg_g, q_sg_sg, q_sg_xs, q_sg_id, q_gu_ne, q_gu_eq, q_g_fne, q_g_cpe, q_w_f, q_v_f, q_u_f, q_fn_f, q_cp_f, q_sg_pg, q_sg_hc, q_lt_t, q_lt_f, q_le_t, q_le_f, q_eq_t, q_eq_f, ne_eq, eq_self, Bool.false_eq_true, Bool.true_eq_false, not_true_eq_false, not_false_eq_true, true_and, and_true, false_and, and_false, true_or, or_true, false_or, or_false, if_true, if_false, Int.reduceAdd, Int.reduceMul, Int.reduceSub, Int.reduceNeg, e', R_335_111, R_335_118, R_335_124]
    · have key : ∀ (f : Nat) (j y : Int) (u : Nat → Int → Int32), j - r = f → j ≤ 3 → F37 t u → PkA m A S r R j y → ∃ u' y', EV (d + 17) 335 105 [.ref 285, .int (q_I (x)), .int (q_I (S)), .int (q_I (r)), .int (q_I (R)), .int (q_I (y)), .int (q_I (j))] [] (q_h L xs (u) O c) = EV (d + 17) 335 188 [.ref 285, .int (q_I (x)), .int (q_I (S)), .int (q_I (r)), .int (q_I (R)), .int (q_I (y')), .int (q_I (r))] [] (q_h L xs (u') O c) ∧ F37 t u' ∧ PkA m A S r R r y' := by
        intro f
        induction f with
        | zero =>
          intro j y u hj j3 hF Pk
          have ej : j = r := by omega
          subst ej
          refine ⟨u, y, ?_, hF, Pk⟩
          rw [R_335_105]
          simp (disch := first | omega | exact q_b_01 _) only [↓reduceIte, q_bk0, q_bk1, q_bk2, q_sg_b, q_b_0, q_b_n0, q_b_1, q_b_n1, q_b_T, q_b_F, q_sg_g, q_sg_sg, q_sg_xs, q_sg_id, q_gu_ne, q_gu_eq, q_g_fne, q_g_cpe, q_w_f, q_v_f, q_u_f, q_fn_f, q_cp_f, q_sg_pg, q_sg_hc, q_lt_t, q_lt_f, q_le_t, q_le_f, q_eq_t, q_eq_f, ne_eq, eq_self, Bool.false_eq_true, Bool.true_eq_false, not_true_eq_false, not_false_eq_true, true_and, and_true, false_and, and_false, true_or, or_true, false_or, or_false, if_true, if_false, Int.reduceAdd, Int.reduceMul, Int.reduceSub, Int.reduceNeg]
        | succ f ih =>
          intro j y u hj j3 hF Pk
          have ug : ∀ k z, k ≠ 307 → q_g u k z = q_g t k z := fun k z hk => by
            show (u k z).toInt = _
            rw [hF k z hk]
            rfl
          have uR : q_g u 310 R = A R := by rw [ug 310 R (by omega), aR.1]
          have uS : q_g u 310 S = A S := by rw [ug 310 S (by omega), aS.1]
          have eu : q_g u 286 = m := by
            rw [← em]
            exact funext fun z => ug 286 z (by omega)
          have ejj : j + -1 = j - 1 := by omega
          have h1 := mm_isOfH (d := d + 16) (L := L) (xs := xs) (s := u) (O := O) (c := c) (x := R) (k := j)
          have h2 := mm_mayPair (d := d + 16) (L := L) (xs := xs) (O := O) (c := c) eu r0 r1 (o := j) (by omega) (by omega)
          have no : ¬ Gd4 m A S r R j → PkA m A S r R (j - 1) y := fun hg => by
            rcases Pk with ⟨p1, p2⟩ | ⟨p1, p2, p3, p4⟩
            · exact Or.inl ⟨p1, fun o o0 o1 => by
                by_cases eo : o = j
                · rw [eo]
                  exact hg
                · exact p2 o (by omega) o1⟩
            · exact Or.inr ⟨by omega, p2, p3, fun o o0 o1 => by
                by_cases eo : o = j
                · rw [eo]
                  exact hg
                · exact p4 o (by omega) o1⟩
          by_cases c1 : hb R j
          · rw [q_bt c1] at h1
            by_cases c2 : mb m r j
            · rw [q_bt c2] at h2
              have cmn := mm_commonOf (d := d + 1) (L := L) (xs := xs) (O := O) (c := c) eu Hv r0 (show r < 5 by omega) (o := j) (by omega) (by omega)
              generalize hV : q_v u 307 0 48 (fun q => q_I (mk m q)) = V at cmn
              have vN : F37 t V := fun k z hk => by
                rw [← hV, ← hF k z hk]
                exact if_neg (fun e => hk e.1)
              have vg : ∀ k z, k ≠ 307 → q_g V k z = q_g t k z := fun k z hk => by
                show (V k z).toInt = _
                rw [vN k z hk]
                rfl
              have d2 := (dl_rg R0 R1 (i := j) (by omega) (by omega)).1
              have aD := hA (dlt R j) d2.1 (by omega)
              have vd : q_g V 310 (dlt R j) = A (dlt R j) := by rw [vg 310 _ (by omega), aD.1]
              have vS : q_g V 310 S = A S := by rw [vg 310 _ (by omega), aS.1]
              have cr := CM_rg m r j
              have ed : q_and R (q_xor (q_shl 1 j) (-1)) = dlt R j := rfl
              have d3 : 0 ≤ q_and R (q_xor (q_shl 1 j) (-1)) ∧ q_and R (q_xor (q_shl 1 j) (-1)) ≤ R := d2
              have vd : q_g V 310 (q_and R (q_xor (q_shl 1 j) (-1))) = A (dlt R j) := vd
              by_cases c3 : CM m r j + A (dlt R j) = A S
              · have Pk' : PkA m A S r R (j - 1) j := Or.inr ⟨by omega, by omega, ⟨c1, c2, c3⟩, fun o o0 o1 => by omega⟩
                obtain ⟨u', y', i1, i2, i3⟩ := ih (j - 1) j V (by omega) (by omega) vN Pk'
                refine ⟨u', y', ?_, i2, i3⟩
                rw [← i1, R_335_105]
                simp (disch := first | omega | exact q_b_01 _) only [↓reduceIte, q_bk0, q_bk1, q_bk2, q_sg_b, q_b_0, q_b_n0, q_b_1, q_b_n1, q_b_T, q_b_F, q_sg_g, q_sg_sg, q_sg_xs, q_sg_id, q_gu_ne, q_gu_eq, q_g_fne, q_g_cpe, q_w_f, q_v_f, q_u_f, q_fn_f, q_cp_f, q_sg_pg, q_sg_hc, q_lt_t, q_lt_f, q_le_t, q_le_f, q_eq_t, q_eq_f, ne_eq, eq_self, Bool.false_eq_true, Bool.true_eq_false, not_true_eq_false, not_false_eq_true, true_and, and_true, false_and, and_false, true_or, or_true, false_or, or_false, if_true, if_false, Int.reduceAdd, Int.reduceMul, Int.reduceSub, Int.reduceNeg, uR, uS, h1, h2, cmn, vd, vS, e, c3, ejj, R_335_111, R_335_118, R_335_124, R_335_127, C_335_131, R_335_134, R_335_137, C_335_141, R_335_144, R_335_147, C_335_151, R_335_154, R_335_168, R_335_175, R_335_178, R_335_182, R_335_185]
              · obtain ⟨u', y', i1, i2, i3⟩ := ih (j - 1) y V (by omega) (by omega) vN (no (fun g => c3 g.2.2))
                refine ⟨u', y', ?_, i2, i3⟩
                rw [← i1, R_335_105]
                simp (disch := first | omega | exact q_b_01 _) only [↓reduceIte, q_bk0, q_bk1, q_bk2, q_sg_b, q_b_0, q_b_n0, q_b_1, q_b_n1, q_b_T, q_b_F, q_sg_g, q_sg_sg, q_sg_xs, q_sg_id, q_gu_ne, q_gu_eq, q_g_fne, q_g_cpe, q_w_f, q_v_f, q_u_f, q_fn_f, q_cp_f, q_sg_pg, q_sg_hc, q_lt_t, q_lt_f, q_le_t, q_le_f, q_eq_t, q_eq_f, ne_eq, eq_self, Bool.false_eq_true, Bool.true_eq_false, not_true_eq_false, not_false_eq_true, true_and, and_true, false_and, and_false, true_or, or_true, false_or, or_false, if_true, if_false, Int.reduceAdd, Int.reduceMul, Int.reduceSub, Int.reduceNeg, uR, uS, h1, h2, cmn, vd, vS, e, c3, ejj, R_335_111, R_335_118, R_335_124, R_335_127, C_335_131, R_335_134, R_335_137, C_335_141, R_335_144, R_335_147, C_335_151, R_335_154, R_335_168, R_335_175, R_335_182, R_335_185]
            · rw [q_bf c2] at h2
              obtain ⟨u', y', i1, i2, i3⟩ := ih (j - 1) y u (by omega) (by omega) hF (no (fun g => c2 g.2.1))
              refine ⟨u', y', ?_, i2, i3⟩
              rw [← i1, R_335_105]
              simp (disch := first | omega | exact q_b_01 _) only [↓reduceIte, q_bk0, q_bk1, q_bk2, q_sg_b, q_b_0, q_b_n0, q_b_1, q_b_n1, q_b_T, q_b_F, q_sg_g, q_sg_sg, q_sg_xs, q_sg_id, q_gu_ne, q_gu_eq, q_g_fne, q_g_cpe, q_w_f, q_v_f, q_u_f, q_fn_f, q_cp_f, q_sg_pg, q_sg_hc, q_lt_t, q_lt_f, q_le_t, q_le_f, q_eq_t, q_eq_f, ne_eq, eq_self, Bool.false_eq_true, Bool.true_eq_false, not_true_eq_false, not_false_eq_true, true_and, and_true, false_and, and_false, true_or, or_true, false_or, or_false, if_true, if_false, Int.reduceAdd, Int.reduceMul, Int.reduceSub, Int.reduceNeg, uR, uS, h1, h2, e, ejj, R_335_111, R_335_118, R_335_124, R_335_127, C_335_131, R_335_134, R_335_137, C_335_141, R_335_144, R_335_182, R_335_185]
          · rw [q_bf c1] at h1
            obtain ⟨u', y', i1, i2, i3⟩ := ih (j - 1) y u (by omega) (by omega) hF (no (fun g => c1 g.1))
            refine ⟨u', y', ?_, i2, i3⟩
            rw [← i1, R_335_105]
            simp (disch := first | omega | exact q_b_01 _) only [↓reduceIte, q_bk0, q_bk1, q_bk2, q_sg_b, q_b_0, q_b_n0, q_b_1, q_b_n1, q_b_T, q_b_F, q_sg_g, q_sg_sg, q_sg_xs, q_sg_id, q_gu_ne, q_gu_eq, q_g_fne, q_g_cpe, q_w_f, q_v_f, q_u_f, q_fn_f, q_cp_f, q_sg_pg, q_sg_hc, q_lt_t, q_lt_f, q_le_t, q_le_f, q_eq_t, q_eq_f, ne_eq, eq_self, Bool.false_eq_true, Bool.true_eq_false, not_true_eq_false, not_false_eq_true, true_and, and_true, false_and, and_false, true_or, or_true, false_or, or_false, if_true, if_false, Int.reduceAdd, Int.reduceMul, Int.reduceSub, Int.reduceNeg, uR, uS, h1, e, ejj, R_335_111, R_335_118, R_335_124, R_335_127, C_335_131, R_335_134, R_335_182, R_335_185]
      obtain ⟨u, y, k1, k2, k3⟩ := key (3 - r).toNat 3 (-1) t (by omega) (by omega) (fun _ _ _ => rfl) (Or.inl ⟨rfl, fun o o0 o1 => by omega⟩)
      exact ⟨u, y, r, k1, k2, Or.inr ⟨Or.inr e, k3⟩⟩
/-- the table read back -/
theorem mm_recon (Hv : Vw m) (x0 : 0 ≤ x) (x1 : x < 4) (hB : ∀ S, 0 ≤ S → S < 16 → BsE m A S) (hr : ∀ S, 0 ≤ S → S < 16 → 0 ≤ A S ∧ A S ≤ 1000) : ∀ (n : Nat) (P : Int → Int) (t : Nat → Int → Int32) (x3 : Int) (x4 x5 x6 : Value), n ≤ 4 → q_g t 286 = m → (∀ z, 0 ≤ z → z < 16 → q_g t 310 z = A z) → P x = -1 → (4 - (n : Int) ≤ x ∨ vo m x ≠ true) → ∃ u, EV (d + 17) 335 81 [.ref 285, .int (q_I (x)), .int (q_I (m4 (fl4 m n P))), .int (q_I (x3)), x4, x5, x6] [] (q_h L xs (t) O c) = some (.inl (some (.int (q_I ((pfV (pMa m) (CM m) n P).2 x)))), q_h L xs (u) O c) ∧ F37 t u
  | 0, P, t, x3, x4, x5, x6, hn, em, hA, hP, hx => by
    have e : m4 (fl4 m 0 P) = 0 := by
      have e' : m4 (fl4 m 0 P) = m4 (fun _ => false) := m4_c (fun i i0 i1 => by
        rw [Bool.eq_false_iff]
        intro x
        have := (fl4_t.mp x).1
        omega)
      rw [e']
      rfl
    refine ⟨t, ?_, fun _ _ _ => rfl⟩
    have ep : (pfV (pMa m) (CM m) 0 P).2 x = -1 := hP
    rw [e, ep, R_335_81]
    simp (disch := first | omega | exact q_b_01 _) only [↓reduceIte, q_bk0, q_bk1, q_bk2, q_sg_b, q_b_0, q_b_n0, q_b_1, q_b_n1, q_b_T, q_b_F, q_sg_g, q_sg_sg, q_sg_xs, q_sg_id, q_gu_ne, q_gu_eq, q_g_fne, q_g_cpe, q_w_f, q_v_f, q_u_f, q_fn_f, q_cp_f, q_sg_pg, q_sg_hc, q_lt_t, q_lt_f, q_le_t, q_le_f, q_eq_t, q_eq_f, ne_eq, eq_self, Bool.false_eq_true, Bool.true_eq_false, not_true_eq_false, not_false_eq_true, true_and, and_true, false_and, and_false, true_or, or_true, false_or, or_false, if_true, if_false, Int.reduceAdd, Int.reduceMul, Int.reduceSub, Int.reduceNeg, R_335_228]
  | n + 1, P, t, x3, x4, x5, x6, hn, em, hA, hP, hx => by
    by_cases h : P (3 - n) = -1
    · by_cases h2 : vo m (3 - n) = true
      · have rg := m4_rg (fl4 m (n + 1) P)
        have rgR := m4_rg (fl4 m n P)
        have lw := fl4_low (P := P) (show n < 4 by omega) h h2
        have edl := fl4_dl (m := m) (P := P) (show n < 4 by omega)
        have S1 : 1 ≤ m4 (fl4 m (n + 1) P) := by
          by_cases e : m4 (fl4 m (n + 1) P) = 0
          · exfalso
            have z := ((m4b_rg _ _ _ _).2).mp e
            have g := (m4_hb (by omega) (by omega)).mp lw.2.2.1
            rcases (show (3 - (n : Int)) = 0 ∨ (3 - (n : Int)) = 1 ∨ (3 - (n : Int)) = 2 ∨ (3 - (n : Int)) = 3 by omega) with q | q | q | q
            · rw [q, z.1] at g
              exact absurd g (by decide)
            · rw [q, z.2.1] at g
              exact absurd g (by decide)
            · rw [q, z.2.2.1] at g
              exact absurd g (by decide)
            · rw [q, z.2.2.2] at g
              exact absurd g (by decide)
          · omega
        obtain ⟨l, hl, lo⟩ := mm_lowest (d := d + 15) (L := L) (xs := xs) (s := t) (O := O) (c := c) S1 rg.2
        have el := Low_f hl lw
        subst el
        have vS : (pfS (pMa m) (CM m) (pfV (pMa m) (CM m) n) P (3 - n) n).1 = A (m4 (fl4 m (n + 1) P)) := by
          have := pf_val hB (n + 1) P hn
          rw [pfV, if_pos h] at this
          exact this
        have vR : (pfV (pMa m) (CM m) n P).1 = A (m4 (fl4 m n P)) := pf_val hB n P (by omega)
        have eV : pfV (pMa m) (CM m) (n + 1) P = pfS (pMa m) (CM m) (pfV (pMa m) (CM m) n) P (3 - n) n := by rw [pfV, if_pos h]
        -- what a candidate is worth
        have good : ∀ k : Nat, k < n → ((pCa (pMa m) P (3 - n) k ∧ pVa (CM m) (pfV (pMa m) (CM m) n) P (3 - n) k = A (m4 (fl4 m (n + 1) P))) ↔ Gd4 m A (m4 (fl4 m (n + 1) P)) (3 - n) (m4 (fl4 m n P)) (3 - n + 1 + k)) := fun k hk => by
          have ca := fl4_ca (m := m) (P := P) (show n < 4 by omega) hk h2
          have va : pVa (CM m) (pfV (pMa m) (CM m) n) P (3 - n) k = CM m (3 - n) (3 - n + 1 + k) + A (dlt (m4 (fl4 m n P)) (3 - n + 1 + k)) := by
            unfold pVa
            rw [pf_val hB n _ (by omega), fl4_dl2 (by omega) (by omega) (by omega)]
          unfold Gd4
          rw [ca, va, and_assoc]
        obtain ⟨u, y, j, k1, k2, k3⟩ := mm_pick (d := d) (L := L) (xs := xs) (t := t) (O := O) (c := c) (A := A) (x := x) (S := m4 (fl4 m (n + 1) P)) (R := m4 (fl4 m n P)) (r := 3 - n) em Hv (fun z z0 z1 => ⟨hA z z0 z1, hr z z0 z1⟩) rg.1 rg.2 rgR.1 rgR.2 (by omega) (by omega) (by omega) x1
        have eu : q_g u 286 = m := by
          rw [← em]
          exact funext fun z => by
            show (u 286 z).toInt = _
            rw [k2 286 z (by omega)]
            rfl
        have uA : ∀ z, 0 ≤ z → z < 16 → q_g u 310 z = A z := fun z z0 z1 => by
          rw [← hA z z0 z1]
          show (u 310 z).toInt = _
          rw [k2 310 z (by omega)]
          rfl
        have start : EV (d + 17) 335 81 [.ref 285, .int (q_I (x)), .int (q_I (m4 (fl4 m (n + 1) P))), .int (q_I (x3)), x4, x5, x6] [] (q_h L xs (t) O c) = EV (d + 17) 335 188 [.ref 285, .int (q_I (x)), .int (q_I (m4 (fl4 m (n + 1) P))), .int (q_I (3 - (n : Int))), .int (q_I (m4 (fl4 m n P))), .int (q_I (y)), .int (q_I (j))] [] (q_h L xs (u) O c) := by
          rw [← k1, ← edl]
          rw [R_335_81]
          simp (disch := first | omega | exact q_b_01 _) only [↓reduceIte, q_bk0, q_bk1, q_bk2, q_sg_b, q_b_0, q_b_n0, q_b_1, q_b_n1, q_b_T, q_b_F, q_sg_g, q_sg_sg, q_sg_xs, q_sg_id, q_gu_ne, q_gu_eq, q_g_fne, q_g_cpe, q_w_f, q_v_f, q_u_f, q_fn_f, q_cp_f, q_sg_pg, q_sg_hc, q_lt_t, q_lt_f, q_le_t, q_le_f, q_eq_t, q_eq_f, ne_eq, eq_self, Bool.false_eq_true, Bool.true_eq_false, not_true_eq_false, not_false_eq_true, true_and, and_true, false_and, and_false, true_or, or_true, false_or, or_false, if_true, if_false, Int.reduceAdd, Int.reduceMul, Int.reduceSub, Int.reduceNeg, lo, R_335_85, C_335_86, R_335_89]
          rfl
        -- alone
        have alone : y = -1 → (pfV (pMa m) (CM m) (n + 1) P).2 = (pfV (pMa m) (CM m) n P).2 → ∃ w, EV (d + 17) 335 81 [.ref 285, .int (q_I (x)), .int (q_I (m4 (fl4 m (n + 1) P))), .int (q_I (x3)), x4, x5, x6] [] (q_h L xs (t) O c) = some (.inl (some (.int (q_I ((pfV (pMa m) (CM m) (n + 1) P).2 x)))), q_h L xs (w) O c) ∧ F37 t w := fun ey e2 => by
          rw [start, e2, ey]
          by_cases ex : x = 3 - n
          · refine ⟨u, ?_, k2⟩
            rw [pfV_kp n P (by omega) (Or.inl (by omega)), hP, ← ex]
            simp (disch := first | omega | exact q_b_01 _) only [↓reduceIte, q_bk0, q_bk1, q_bk2, q_sg_b, q_b_0, q_b_n0, q_b_1, q_b_n1, q_b_T, q_b_F, q_sg_g, q_sg_sg, q_sg_xs, q_sg_id, q_gu_ne, q_gu_eq, q_g_fne, q_g_cpe, q_w_f, q_v_f, q_u_f, q_fn_f, q_cp_f, q_sg_pg, q_sg_hc, q_lt_t, q_lt_f, q_le_t, q_le_f, q_eq_t, q_eq_f, ne_eq, eq_self, Bool.false_eq_true, Bool.true_eq_false, not_true_eq_false, not_false_eq_true, true_and, and_true, false_and, and_false, true_or, or_true, false_or, or_false, if_true, if_false, Int.reduceAdd, Int.reduceMul, Int.reduceSub, Int.reduceNeg, R_335_188, R_335_193]
          · obtain ⟨w, w1, w2⟩ := mm_recon Hv x0 x1 hB hr n P u (3 - n) (.int (q_I (m4 (fl4 m n P)))) (.int (q_I (-1))) (.int (q_I j)) (by omega) eu uA hP (by rcases hx with q | q; exact Or.inl (by omega); exact Or.inr q)
            refine ⟨w, ?_, fun k z hk => by rw [w2 k z hk, k2 k z hk]⟩
            rw [← w1]
            simp (disch := first | omega | exact q_b_01 _) only [↓reduceIte, q_bk0, q_bk1, q_bk2, q_sg_b, q_b_0, q_b_n0, q_b_1, q_b_n1, q_b_T, q_b_F, q_sg_g, q_sg_sg, q_sg_xs, q_sg_id, q_gu_ne, q_gu_eq, q_g_fne, q_g_cpe, q_w_f, q_v_f, q_u_f, q_fn_f, q_cp_f, q_sg_pg, q_sg_hc, q_lt_t, q_lt_f, q_le_t, q_le_f, q_eq_t, q_eq_f, ne_eq, eq_self, Bool.false_eq_true, Bool.true_eq_false, not_true_eq_false, not_false_eq_true, true_and, and_true, false_and, and_false, true_or, or_true, false_or, or_false, if_true, if_false, Int.reduceAdd, Int.reduceMul, Int.reduceSub, Int.reduceNeg, R_335_188, R_335_196, R_335_204, R_335_210, R_335_224]
        rcases k3 with ⟨k4, k5, k6⟩ | ⟨k4, k5⟩
        · refine alone k6 ?_
          rw [eV, pfS_a (by rw [vS, vR, k5])]
        · by_cases eA : A (m4 (fl4 m n P)) = A (m4 (fl4 m (n + 1) P))
          · have n0 : n = 0 := by omega
            rcases k5 with ⟨p1, p2⟩ | ⟨p1, p2, p3, p4⟩
            · refine alone p1 ?_
              rw [eV, pfS_a (by rw [vS, vR, eA])]
            · omega
          · have hne : (pfV (pMa m) (CM m) n P).1 ≠ (pfS (pMa m) (CM m) (pfV (pMa m) (CM m) n) P (3 - n) n).1 := by
              rw [vS, vR]
              exact eA
            rcases k5 with ⟨p1, p2⟩ | ⟨p1, p2, p3, p4⟩
            · exfalso
              rcases pfS_at (ma := pMa m) (cm := CM m) (V := pfV (pMa m) (CM m) n) (P := P) (r := 3 - n) n with q | ⟨i, i1, i2, i3⟩
              · exact hne q.symm
              · exact p2 (3 - n + 1 + i) (by omega) (by omega) ((good i i1).mp ⟨i2, by rw [i3, vS]⟩)
            · obtain ⟨i, ei⟩ : ∃ i : Nat, y = 3 - n + 1 + i := ⟨(y - (3 - n + 1)).toNat, by omega⟩
              have gi := (good i (by omega)).mpr (by rw [← ei]; exact p3)
              have e2 : (pfV (pMa m) (CM m) (n + 1) P).2 = (pfV (pMa m) (CM m) n (up (up P (3 - n) y) y (3 - n))).2 := by
                rw [eV, pfS_b (show i < n by omega) hne gi.1 (by rw [gi.2, vS]) (fun i' hi' ca hv => p4 (3 - n + 1 + i') (by omega) (by omega) ((good i' (by omega)).mp ⟨ca, by rw [hv, vS]⟩)), ei]
              rw [start, e2]
              by_cases ex : x = 3 - n
              · refine ⟨u, ?_, k2⟩
                rw [pfV_kp n _ (by omega) (Or.inl (by omega)), ex, up_ne (by omega), up_eq rfl]
                simp (disch := first | omega | exact q_b_01 _) only [↓reduceIte, q_bk0, q_bk1, q_bk2, q_sg_b, q_b_0, q_b_n0, q_b_1, q_b_n1, q_b_T, q_b_F, q_sg_g, q_sg_sg, q_sg_xs, q_sg_id, q_gu_ne, q_gu_eq, q_g_fne, q_g_cpe, q_w_f, q_v_f, q_u_f, q_fn_f, q_cp_f, q_sg_pg, q_sg_hc, q_lt_t, q_lt_f, q_le_t, q_le_f, q_eq_t, q_eq_f, ne_eq, eq_self, Bool.false_eq_true, Bool.true_eq_false, not_true_eq_false, not_false_eq_true, true_and, and_true, false_and, and_false, true_or, or_true, false_or, or_false, if_true, if_false, Int.reduceAdd, Int.reduceMul, Int.reduceSub, Int.reduceNeg, R_335_188, R_335_193]
              · by_cases ey : y = x
                · refine ⟨u, ?_, k2⟩
                  rw [← ey, pfV_kp n _ (by omega) (Or.inr (by rw [up_eq rfl]; omega)), up_eq rfl]
                  simp (disch := first | omega | exact q_b_01 _) only [↓reduceIte, q_bk0, q_bk1, q_bk2, q_sg_b, q_b_0, q_b_n0, q_b_1, q_b_n1, q_b_T, q_b_F, q_sg_g, q_sg_sg, q_sg_xs, q_sg_id, q_gu_ne, q_gu_eq, q_g_fne, q_g_cpe, q_w_f, q_v_f, q_u_f, q_fn_f, q_cp_f, q_sg_pg, q_sg_hc, q_lt_t, q_lt_f, q_le_t, q_le_f, q_eq_t, q_eq_f, ne_eq, eq_self, Bool.false_eq_true, Bool.true_eq_false, not_true_eq_false, not_false_eq_true, true_and, and_true, false_and, and_false, true_or, or_true, false_or, or_false, if_true, if_false, Int.reduceAdd, Int.reduceMul, Int.reduceSub, Int.reduceNeg, R_335_188, R_335_196, R_335_202]
                · obtain ⟨w, w1, w2⟩ := mm_recon Hv x0 x1 hB hr n (up (up P (3 - n) y) y (3 - n)) u (3 - n) (.int (q_I (m4 (fl4 m n P)))) (.int (q_I y)) (.int (q_I j)) (by omega) eu uA (by rw [up_ne (by omega), up_ne ex, hP]) (by rcases hx with q | q; exact Or.inl (by omega); exact Or.inr q)
                  refine ⟨w, ?_, fun k z hk => by rw [w2 k z hk, k2 k z hk]⟩
                  rw [← w1, ← fl4_dl2 (by omega) (by omega) p2]
                  simp (disch := first | omega | exact q_b_01 _) only [↓reduceIte, q_bk0, q_bk1, q_bk2, q_sg_b, q_b_0, q_b_n0, q_b_1, q_b_n1, q_b_T, q_b_F, q_sg_g, q_sg_sg, q_sg_xs, q_sg_id, q_gu_ne, q_gu_eq, q_g_fne, q_g_cpe, q_w_f, q_v_f, q_u_f, q_fn_f, q_cp_f, q_sg_pg, q_sg_hc, q_lt_t, q_lt_f, q_le_t, q_le_f, q_eq_t, q_eq_f, ne_eq, eq_self, Bool.false_eq_true, Bool.true_eq_false, not_true_eq_false, not_false_eq_true, true_and, and_true, false_and, and_false, true_or, or_true, false_or, or_false, if_true, if_false, Int.reduceAdd, Int.reduceMul, Int.reduceSub, Int.reduceNeg, R_335_188, R_335_196, R_335_204, R_335_215, R_335_224]
                  rfl
      · have e1 : pfV (pMa m) (CM m) (n + 1) P = pfV (pMa m) (CM m) n P := by rw [pfV, if_pos h, pfS_no (fun o q => h2 q.1.1)]
        rw [e1, fl4_skip (fun q => h2 q.2)]
        refine mm_recon Hv x0 x1 hB hr n P t x3 x4 x5 x6 (by omega) em hA hP ?_
        by_cases ex : x = 3 - n
        · rw [← ex] at h2
          exact Or.inr h2
        · rcases hx with q | q
          · exact Or.inl (by omega)
          · exact Or.inr q
    · have e1 : pfV (pMa m) (CM m) (n + 1) P = pfV (pMa m) (CM m) n P := by rw [pfV, if_neg h]
      rw [e1, fl4_skip (fun q => h q.1)]
      refine mm_recon Hv x0 x1 hB hr n P t x3 x4 x5 x6 (by omega) em hA hP ?_
      have ex : x ≠ 3 - n := fun ex => h (ex ▸ hP)
      rcases hx with q | q
      · exact Or.inl (by omega)
      · exact Or.inr q
end PR2
