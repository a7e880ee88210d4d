/-! PAIRS: the class's search -/
/-- the first best among more and more partners of r -/
noncomputable def pfS (ma : Int → Int → Prop) [∀ a b, Decidable (ma a b)] (cm : Int → Int → Int) (V : (Int → Int) → Int × (Int → Int)) (P : Int → Int) (r : Int) : Nat → Int × (Int → Int)
  | 0 => V P
  | k + 1 => if P (r + 1 + k) = -1 ∧ ma r (r + 1 + k) then (if (pfS ma cm V P r k).1 < cm r (r + 1 + k) + (V (up (up P r (r + 1 + k)) (r + 1 + k) r)).1 then (cm r (r + 1 + k) + (V (up (up P r (r + 1 + k)) (r + 1 + k) r)).1, (V (up (up P r (r + 1 + k)) (r + 1 + k) r)).2) else pfS ma cm V P r k) else pfS ma cm V P r k
noncomputable def pfV (ma : Int → Int → Prop) [∀ a b, Decidable (ma a b)] (cm : Int → Int → Int) : Nat → (Int → Int) → Int × (Int → Int)
  | 0, P => (0, P)
  | n + 1, P => if P (3 - n) = -1 then pfS ma cm (pfV ma cm n) P (3 - n) n else pfV ma cm n P
noncomputable def pfU (B : Int × (Int → Int)) (sh : Int) (X : Int × (Int → Int)) : Int × (Int → Int) := if B.1 < sh + X.1 then (sh + X.1, X.2) else B
section PFP
variable {ma : Int → Int → Prop} {cm : Int → Int → Int}
theorem pfU_2 {B X W : Int × (Int → Int)} {sh c : Int} : pfU (pfU B sh X) (sh + c) W = pfU B sh (if X.1 < c + W.1 then (c + W.1, W.2) else X) := by
  unfold pfU
  by_cases h1 : B.1 < sh + X.1
  · rw [if_pos h1]
    by_cases h2 : X.1 < c + W.1
    · rw [if_pos h2, if_pos (show (sh + X.1, X.2).1 < sh + c + W.1 by dsimp only; omega), if_pos (show B.1 < sh + (c + W.1, W.2).1 by dsimp only; omega)]
      dsimp only
      rw [show sh + c + W.1 = sh + (c + W.1) by omega]
    · rw [if_neg h2, if_neg (show ¬ (sh + X.1, X.2).1 < sh + c + W.1 by dsimp only; omega), if_pos h1]
  · rw [if_neg h1]
    by_cases h2 : X.1 < c + W.1
    · rw [if_pos h2]
      dsimp only
      rw [show sh + c + W.1 = sh + (c + W.1) by omega]
    · rw [if_neg h2, if_neg (show ¬ B.1 < sh + c + W.1 by omega), if_neg h1]
theorem pfS_rg [∀ a b, Decidable (ma a b)] (hc : ∀ a b, 0 ≤ cm a b ∧ cm a b ≤ 48) {V : (Int → Int) → Int × (Int → Int)} {N : Int} (hV : ∀ P, 0 ≤ (V P).1 ∧ (V P).1 ≤ N) {P : Int → Int} {r : Int} : ∀ k, 0 ≤ (pfS ma cm V P r k).1 ∧ (pfS ma cm V P r k).1 ≤ N + 48
  | 0 => by
    have := hV P
    show 0 ≤ (V P).1 ∧ (V P).1 ≤ N + 48
    omega
  | k + 1 => by
    have ih := pfS_rg hc hV (P := P) (r := r) k
    have h1 := hV (up (up P r (r + 1 + k)) (r + 1 + k) r)
    have h2 := hc r (r + 1 + k)
    unfold pfS
    split
    · split
      · dsimp only
        omega
      · exact ih
    · exact ih
theorem pfV_rg [∀ a b, Decidable (ma a b)] (hc : ∀ a b, 0 ≤ cm a b ∧ cm a b ≤ 48) : ∀ (n : Nat) (P : Int → Int), 0 ≤ (pfV ma cm n P).1 ∧ (pfV ma cm n P).1 ≤ 48 * n
  | 0, P => by
    show (0 : Int) ≤ 0 ∧ (0 : Int) ≤ 48 * (0 : Nat)
    omega
  | n + 1, P => by
    have ih := pfV_rg hc n
    unfold pfV
    split
    · have := pfS_rg (ma := ma) hc ih (P := P) (r := 3 - n) n
      omega
    · have := ih P
      omega
end PFP
section PFC
variable {d L : Nat} {xs : Nat → Int32} {s t : Nat → Int → Int32} {O : Nat → Int64} {c : Bool × Nat × Nat} {m : Int → Int} {b : Int}
abbrev pMa (m : Int → Int) (a b : Int) : Prop := (vo m a = true ∧ vo m b = true) ∧ m (9 + 2 * a) ≠ m (9 + 2 * b)
theorem CM_rg (m : Int → Int) (a b : Int) : 0 ≤ CM m a b ∧ CM m a b ≤ 48 := by
  have := q_S_bd (f := fun p => q_b (iv m a p = true ∧ iv m b p = true)) (lo := 0) (hi := 48) (a := 0) (b := 1) (fun i _ _ => by
    unfold q_b
    split
    · omega
    · omega) (by omega)
  unfold CM
  omega
noncomputable def PSt (P : Int → Int) (B : Int × (Int → Int)) (s : Nat → Int → Int32) : Prop := (∀ i, 0 ≤ i → i < 4 → q_g s 267 i = P i) ∧ q_g s 1 18 = B.1 ∧ (-1 ≤ B.1 ∧ B.1 ≤ 1000) ∧ ∀ i, 0 ≤ i → i < 4 → q_g s 268 i = B.2 i
noncomputable def PFr (s t : Nat → Int → Int32) : Prop := ∀ k z, k ≠ 267 → k ≠ 268 → ¬ (k = 1 ∧ z = 18) → t k z = s k z
theorem cc_mayPair {a o : Int} (H : RB m s 7) (a0 : 0 ≤ a) (a1 : a < 4) (o0 : 0 ≤ o) (o1 : o < 4) : EV (d + 2) 205 0 [.ref 1, .int (q_I (a)), .int (q_I (o))] [] (q_h L xs s O c) = some (.inl (some (.int (q_I (q_b (pMa m a o))))), q_h L xs (s) O c) := by
  have h1 := cc_isOpenViewV (d := d) (L := L) (xs := xs) (O := O) (c := c) H a0 (show a < 5 by omega)
  have h2 := cc_isOpenViewV (d := d) (L := L) (xs := xs) (O := O) (c := c) H o0 (show o < 5 by omega)
  have g1 := (H.2.2.1 a a0 a1).1
  have g2 := (H.2.2.1 o o0 o1).1
  by_cases e1 : vo m a = true
  · by_cases e2 : vo m o = true
    · rw [q_bt e1] at h1
      rw [q_bt e2] at h2
      by_cases e3 : m (9 + 2 * a) = m (9 + 2 * o)
      · have e : q_g s 16 a = q_g s 16 o := by rw [g1, g2, e3]
        rw [q_bf (fun h => h.2 e3)]
        simp (disch := first | omega | exact q_b_01 _) only [↓reduceIte, q_bk0, q_bk1, q_bk2, q_sg_b, q_b_0, q_b_n0, q_b_1, q_b_n1, q_b_T, q_b_F, q_sg_g, q_sg_sg, q_sg_xs, q_sg_id, q_gu_ne, q_gu_eq, q_g_fne, q_g_cpe, q_w_f, q_v_f, q_u_f, q_fn_f, q_cp_f, q_sg_pg, q_sg_hc, q_lt_t, q_lt_f, q_le_t, q_le_f, q_eq_t, q_eq_f, ne_eq, eq_self, Bool.false_eq_true, Bool.true_eq_false, not_true_eq_false, not_false_eq_true, true_and, and_true, false_and, and_false, true_or, or_true, false_or, or_false, if_true, if_false, Int.reduceAdd, Int.reduceMul, Int.reduceSub, Int.reduceNeg, h1, h2, e, R_205_0, R_205_5, R_205_8, R_205_13, R_205_16, R_205_25, R_205_34, R_205_37, R_205_41, R_205_42, C_205_2, C_205_10]
      · have e : ¬ q_g s 16 a = q_g s 16 o := by rw [g1, g2]; exact e3
        rw [q_bt (show pMa m a o from ⟨⟨e1, e2⟩, e3⟩)]
        simp (disch := first | omega | exact q_b_01 _) only [↓reduceIte, q_bk0, q_bk1, q_bk2, q_sg_b, q_b_0, q_b_n0, q_b_1, q_b_n1, q_b_T, q_b_F, q_sg_g, q_sg_sg, q_sg_xs, q_sg_id, q_gu_ne, q_gu_eq, q_g_fne, q_g_cpe, q_w_f, q_v_f, q_u_f, q_fn_f, q_cp_f, q_sg_pg, q_sg_hc, q_lt_t, q_lt_f, q_le_t, q_le_f, q_eq_t, q_eq_f, ne_eq, eq_self, Bool.false_eq_true, Bool.true_eq_false, not_true_eq_false, not_false_eq_true, true_and, and_true, false_and, and_false, true_or, or_true, false_or, or_false, if_true, if_false, Int.reduceAdd, Int.reduceMul, Int.reduceSub, Int.reduceNeg, h1, h2, e, R_205_0, R_205_5, R_205_8, R_205_13, R_205_16, R_205_25, R_205_34, R_205_37, R_205_41, R_205_42, C_205_2, C_205_10]
    · rw [q_bt e1] at h1
      rw [q_bf e2] at h2
      rw [q_bf (fun h => e2 h.1.2)]
      simp (disch := first | omega | exact q_b_01 _) only [↓reduceIte, q_bk0, q_bk1, q_bk2, q_sg_b, q_b_0, q_b_n0, q_b_1, q_b_n1, q_b_T, q_b_F, q_sg_g, q_sg_sg, q_sg_xs, q_sg_id, q_gu_ne, q_gu_eq, q_g_fne, q_g_cpe, q_w_f, q_v_f, q_u_f, q_fn_f, q_cp_f, q_sg_pg, q_sg_hc, q_lt_t, q_lt_f, q_le_t, q_le_f, q_eq_t, q_eq_f, ne_eq, eq_self, Bool.false_eq_true, Bool.true_eq_false, not_true_eq_false, not_false_eq_true, true_and, and_true, false_and, and_false, true_or, or_true, false_or, or_false, if_true, if_false, Int.reduceAdd, Int.reduceMul, Int.reduceSub, Int.reduceNeg, h1, h2, R_205_0, R_205_5, R_205_8, R_205_13, R_205_16, R_205_25, R_205_34, R_205_37, R_205_41, R_205_42, C_205_2, C_205_10]
  · rw [q_bf e1] at h1
    rw [q_bf (fun h => e1 h.1.1)]
    simp (disch := first | omega | exact q_b_01 _) only [↓reduceIte, q_bk0, q_bk1, q_bk2, q_sg_b, q_b_0, q_b_n0, q_b_1, q_b_n1, q_b_T, q_b_F, q_sg_g, q_sg_sg, q_sg_xs, q_sg_id, q_gu_ne, q_gu_eq, q_g_fne, q_g_cpe, q_w_f, q_v_f, q_u_f, q_fn_f, q_cp_f, q_sg_pg, q_sg_hc, q_lt_t, q_lt_f, q_le_t, q_le_f, q_eq_t, q_eq_f, ne_eq, eq_self, Bool.false_eq_true, Bool.true_eq_false, not_true_eq_false, not_false_eq_true, true_and, and_true, false_and, and_false, true_or, or_true, false_or, or_false, if_true, if_false, Int.reduceAdd, Int.reduceMul, Int.reduceSub, Int.reduceNeg, h1, R_205_0, R_205_5, R_205_8, R_205_13, R_205_16, R_205_25, R_205_34, R_205_37, R_205_41, R_205_42, C_205_2, C_205_10]
theorem cc_shared {a o : Int} (Hv : Vw m) (a0 : 0 ≤ a) (a1 : a < 4) (o0 : 0 ≤ o) (o1 : o < 4) (W : ∀ v, 0 ≤ v → v < 5 → Wk m v s) : EV (d + 2) 129 0 [.ref (q_r264 a), .ref (q_r264 o), .null, .null] [] (q_h L xs s O c) = some (.inl (some (.int (q_I (CM m a o)))), q_h L xs (s) O c) := by
  rw [cc_pagesShared (r264_W a0 (by omega)) (r264_W o0 (by omega)), ps_eq Hv a0 (by omega) o0 (by omega) (W a a0 (by omega)) (W o o0 (by omega))]
theorem cc_pairFrom (Hv : Vw m) : ∀ (n : Nat) (sh : Int) (P : Int → Int) (B : Int × (Int → Int)) (s : Nat → Int → Int32), n ≤ 4 → 0 ≤ sh → sh + 48 * n ≤ 400 → PSt P B s → RB m s 7 → (∀ v, 0 ≤ v → v < 5 → Wk m v s) → ∃ t, EV (d + n + 4) 204 0 [.ref 1, .int (q_I (4 - (n : Int))), .int (q_I (sh)), .null] [] (q_h L xs s O c) = some (.inl none, q_h L xs (t) O c) ∧ PSt P (pfU B sh (pfV (pMa m) (CM m) n P)) t ∧ PFr s t
  | 0, sh, P, B, s, n4, sh0, sh1, Ps, H, W => by
    obtain ⟨p1, p2, p3, p4⟩ := Ps
    have e4 : (4 : Int) - ((0 : Nat) : Int) = 4 := by omega
    have ev : pfV (pMa m) (CM m) 0 P = (0, P) := rfl
    rw [e4, ev]
    by_cases h : B.1 < sh
    · have eu : pfU B sh (0, P) = (sh, P) := by
        unfold pfU
        rw [if_pos (show B.1 < sh + (0, P).1 by dsimp only; omega)]
        dsimp only
        rw [Int.add_zero]
      rw [eu]
      refine ⟨q_cp (q_u s 1 18 sh) 267 0 268 0 4, ?_, ⟨fun i i0 i1 => ?_, ?_, by dsimp only; omega, fun i i0 i1 => ?_⟩, fun k z k1 k2 k3 => ?_⟩
      · rw [R_204_0]
        simp (disch := first | omega | exact q_b_01 _) only [↓reduceIte, q_bk0, q_bk1, q_bk2, q_sg_b, q_b_0, q_b_n0, q_b_1, q_b_n1, q_b_T, q_b_F, q_sg_g, q_sg_sg, q_sg_xs, q_sg_id, q_gu_ne, q_gu_eq, q_g_fne, q_g_cpe, q_w_f, q_v_f, q_u_f, q_fn_f, q_cp_f, q_sg_pg, q_sg_hc, q_lt_t, q_lt_f, q_le_t, q_le_f, q_eq_t, q_eq_f, ne_eq, eq_self, Bool.false_eq_true, Bool.true_eq_false, not_true_eq_false, not_false_eq_true, true_and, and_true, false_and, and_false, true_or, or_true, false_or, or_false, if_true, if_false, Int.reduceAdd, Int.reduceMul, Int.reduceSub, Int.reduceNeg, p2, R_204_4, R_204_9, R_204_17, R_204_22, C_204_33, R_204_36]
      · rw [q_g_cpe (by omega), q_gu_ne (by omega), p1 i i0 i1]
      · rw [q_g_cpe (by omega), q_gu_eq rfl, q_sg_id (by omega) (by omega)]
      · rw [q_g_cp0 i0 i1, q_gu_ne (by omega), p1 i i0 i1]
      · rw [q_cp_n k2, q_u_n k3]
    · have eu : pfU B sh (0, P) = B := by
        unfold pfU
        rw [if_neg (show ¬ B.1 < sh + (0, P).1 by dsimp only; omega)]
      rw [eu]
      refine ⟨s, ?_, ⟨p1, p2, p3, p4⟩, fun _ _ _ _ _ => rfl⟩
      rw [R_204_0]
      simp (disch := first | omega | exact q_b_01 _) only [↓reduceIte, q_bk0, q_bk1, q_bk2, q_sg_b, q_b_0, q_b_n0, q_b_1, q_b_n1, q_b_T, q_b_F, q_sg_g, q_sg_sg, q_sg_xs, q_sg_id, q_gu_ne, q_gu_eq, q_g_fne, q_g_cpe, q_w_f, q_v_f, q_u_f, q_fn_f, q_cp_f, q_sg_pg, q_sg_hc, q_lt_t, q_lt_f, q_le_t, q_le_f, q_eq_t, q_eq_f, ne_eq, eq_self, Bool.false_eq_true, Bool.true_eq_false, not_true_eq_false, not_false_eq_true, true_and, and_true, false_and, and_false, true_or, or_true, false_or, or_false, if_true, if_false, Int.reduceAdd, Int.reduceMul, Int.reduceSub, Int.reduceNeg, p2, R_204_4, R_204_9, R_204_36]
  | n + 1, sh, P, B, s, n4, sh0, sh1, Ps, H, W => by
    have fr : ∀ {s t : Nat → Int → Int32}, PFr s t → RB m s 7 → (∀ v, 0 ≤ v → v < 5 → Wk m v s) → RB m t 7 ∧ ∀ v, 0 ≤ v → v < 5 → Wk m v t := fun {s t} h H W => ⟨rb_k H (fun k z k1 k2 => h k z (by omega) (by omega) (by omega)), fun v v0 v1 => Wk_fr (W v v0 v1) (funext fun z => h _ z (by unfold q_r264; omega) (by unfold q_r264; omega) (by unfold q_r264; omega)) (funext fun z => h _ z (by unfold q_r264; omega) (by unfold q_r264; omega) (by unfold q_r264; omega)) (funext fun z => h _ z (by unfold q_r264; omega) (by unfold q_r264; omega) (by unfold q_r264; omega))⟩
    have er : (4 : Int) - ((n + 1 : Nat) : Int) = 3 - n := by omega
    rw [er]
    have ed : d + (n + 1) + 4 = d + n + 4 + 1 := by omega
    rw [ed]
    have e1 : (3 : Int) - n + 1 = 4 - n := by omega
    obtain ⟨t1, a1, a2, a3⟩ := cc_pairFrom Hv n sh P B s (by omega) sh0 (by omega) Ps H W
    obtain ⟨H1, W1⟩ := fr a3 H W
    have g267 := a2.1 (3 - n) (by omega) (by omega)
    have start : EV (d + n + 4 + 1) 204 0 [.ref 1, .int (q_I (3 - (n : Int))), .int (q_I (sh)), .null] [] (q_h L xs s O c) = EV (d + n + 4 + 1) 204 51 [.ref 1, .int (q_I (3 - (n : Int))), .int (q_I (sh)), .null] [.int (q_I (P (3 - (n : Int))))] (q_h L xs (t1) O c) := by
      rw [R_204_0]
      simp (disch := first | omega | exact q_b_01 _) only [↓reduceIte, q_bk0, q_bk1, q_bk2, q_sg_b, q_b_0, q_b_n0, q_b_1, q_b_n1, q_b_T, q_b_F, q_sg_g, q_sg_sg, q_sg_xs, q_sg_id, q_gu_ne, q_gu_eq, q_g_fne, q_g_cpe, q_w_f, q_v_f, q_u_f, q_fn_f, q_cp_f, q_sg_pg, q_sg_hc, q_lt_t, q_lt_f, q_le_t, q_le_f, q_eq_t, q_eq_f, ne_eq, eq_self, Bool.false_eq_true, Bool.true_eq_false, not_true_eq_false, not_false_eq_true, true_and, and_true, false_and, and_false, true_or, or_true, false_or, or_false, if_true, if_false, Int.reduceAdd, Int.reduceMul, Int.reduceSub, Int.reduceNeg, e1, a1, g267, R_204_4, R_204_37, C_204_42, R_204_45]
    by_cases hP : P (3 - n) = -1
    · have ev : pfV (pMa m) (CM m) (n + 1) P = pfS (pMa m) (CM m) (pfV (pMa m) (CM m) n) P (3 - n) n := by
        rw [pfV, if_pos hP]
      rw [ev]
      obtain ⟨t, b1, b2, b3⟩ := q_for (fun j t => EV (d + n + 4 + 1) 204 60 [.ref 1, .int (q_I (3 - (n : Int))), .int (q_I (sh)), .int (q_I (4 - (n : Int) + j))] [] (q_h L xs (t) O c)) (fun j t => PSt P (pfU B sh (pfS (pMa m) (CM m) (pfV (pMa m) (CM m) n) P (3 - n) j.toNat)) t ∧ PFr s t) (lo := 0) (hi := n) (by omega) (fun j t j0 j1 Q => by
        obtain ⟨Q1, Q2⟩ := Q
        obtain ⟨Ht, Wt⟩ := fr Q2 H W
        have eo : 4 - (n : Int) + (j + 1) = 4 - (n : Int) + j + 1 := by omega
        have ej : (3 : Int) - n + 1 + ((j.toNat : Nat) : Int) = 4 - n + j := by omega
        have go := Q1.1 (4 - n + j) (by omega) (by omega)
        have es : pfS (pMa m) (CM m) (pfV (pMa m) (CM m) n) P (3 - n) (j + 1).toNat = if P (4 - n + j) = -1 ∧ pMa m (3 - n) (4 - n + j) then (if (pfS (pMa m) (CM m) (pfV (pMa m) (CM m) n) P (3 - n) j.toNat).1 < CM m (3 - n) (4 - n + j) + (pfV (pMa m) (CM m) n (up (up P (3 - n) (4 - n + j)) (4 - n + j) (3 - n))).1 then (CM m (3 - n) (4 - n + j) + (pfV (pMa m) (CM m) n (up (up P (3 - n) (4 - n + j)) (4 - n + j) (3 - n))).1, (pfV (pMa m) (CM m) n (up (up P (3 - n) (4 - n + j)) (4 - n + j) (3 - n))).2) else pfS (pMa m) (CM m) (pfV (pMa m) (CM m) n) P (3 - n) j.toNat) else pfS (pMa m) (CM m) (pfV (pMa m) (CM m) n) P (3 - n) j.toNat := by
          rw [show (j + 1).toNat = j.toNat + 1 by omega, pfS, ej]
        rw [eo, es]
        by_cases c1 : P (4 - n + j) = -1
        · have mp := cc_mayPair (d := d + n + 2) (L := L) (xs := xs) (O := O) (c := c) Ht (a := 3 - n) (o := 4 - n + j) (by omega) (by omega) (by omega) (by omega)
          by_cases c2 : pMa m (3 - n) (4 - n + j)
          · rw [if_pos ⟨c1, c2⟩]
            rw [q_bt c2] at mp
            have cr := CM_rg m (3 - n) (4 - n + j)
            generalize hS : q_u (q_u t 267 (3 - n) (4 - n + j)) 267 (4 - n + j) (3 - n) = S
            have fS : PFr s S := fun k z k1 k2 k3 => by rw [← hS, q_u_n (by omega), q_u_n (by omega), Q2 k z k1 k2 k3]
            obtain ⟨HS, WS⟩ := fr fS H W
            have PS2 : PSt (up (up P (3 - n) (4 - n + j)) (4 - n + j) (3 - n)) (pfU B sh (pfS (pMa m) (CM m) (pfV (pMa m) (CM m) n) P (3 - n) j.toNat)) S := by
              refine ⟨fun i i0 i1 => ?_, by rw [← hS, q_gu_ne (by omega), q_gu_ne (by omega)]; exact Q1.2.1, Q1.2.2.1, fun i i0 i1 => by rw [← hS, q_gu_ne (by omega), q_gu_ne (by omega)]; exact Q1.2.2.2 i i0 i1⟩
              rw [← hS]
              by_cases i2 : i = 4 - n + j
              · rw [i2, up_eq rfl, q_gu_eq rfl, q_sg_id (by omega) (by omega)]
              · rw [up_ne i2, q_gu_ne (by omega)]
                by_cases i3 : i = 3 - n
                · rw [i3, up_eq rfl, q_gu_eq rfl, q_sg_id (by omega) (by omega)]
                · rw [up_ne i3, q_gu_ne (by omega)]
                  exact Q1.1 i i0 i1
            have sp := cc_shared (d := d + n + 2) (L := L) (xs := xs) (O := O) (c := c) Hv (a := 3 - n) (o := 4 - n + j) (by omega) (by omega) (by omega) (by omega) WS
            obtain ⟨t2, d1, d2, d3⟩ := cc_pairFrom Hv n (sh + CM m (3 - n) (4 - n + j)) _ _ S (by omega) (by omega) (by omega) PS2 HS WS
            rw [pfU_2] at d2
            refine ⟨q_u (q_u t2 267 (3 - n) (-1)) 267 (4 - n + j) (-1), ?_, ⟨fun i i0 i1 => ?_, by rw [q_gu_ne (by omega), q_gu_ne (by omega)]; exact d2.2.1, d2.2.2.1, fun i i0 i1 => by rw [q_gu_ne (by omega), q_gu_ne (by omega)]; exact d2.2.2.2 i i0 i1⟩, fun k z k1 k2 k3 => by rw [q_u_n (by omega), q_u_n (by omega), d3 k z k1 k2 k3, fS k z k1 k2 k3]⟩
            · rw [R_204_60]
              simp (disch := first | omega | exact q_b_01 _) only [↓reduceIte, q_bk0, q_bk1, q_bk2, q_sg_b, q_b_0, q_b_n0, q_b_1, q_b_n1, q_b_T, q_b_F, q_sg_g, q_sg_sg, q_sg_xs, q_sg_id, q_gu_ne, q_gu_eq, q_g_fne, q_g_cpe, q_w_f, q_v_f, q_u_f, q_fn_f, q_cp_f, q_sg_pg, q_sg_hc, q_lt_t, q_lt_f, q_le_t, q_le_f, q_eq_t, q_eq_f, ne_eq, eq_self, Bool.false_eq_true, Bool.true_eq_false, not_true_eq_false, not_false_eq_true, true_and, and_true, false_and, and_false, true_or, or_true, false_or, or_false, if_true, if_false, Int.reduceAdd, Int.reduceMul, Int.reduceSub, Int.reduceNeg, go, c1, mp, hS, e1, wk_rc (r264_W (v := 3 - n) (by omega) (by omega)), sp, d1, R_204_65, R_204_71, R_204_75, C_204_78, R_204_81, R_204_84, R_204_91, R_204_98, R_204_109, C_204_115, R_204_118, C_204_119, R_204_122, R_204_129, R_204_136]
            · by_cases i2 : i = 4 - n + j
              · rw [i2, q_gu_eq rfl, c1]
                exact q_sg_id (by omega) (by omega)
              · rw [q_gu_ne (by omega)]
                by_cases i3 : i = 3 - n
                · rw [i3, q_gu_eq rfl, hP]
                  exact q_sg_id (by omega) (by omega)
                · rw [q_gu_ne (by omega), d2.1 i i0 i1, up_ne i2, up_ne i3]
          · rw [if_neg (fun h => c2 h.2)]
            rw [q_bf c2] at mp
            refine ⟨t, ?_, Q1, Q2⟩
            rw [R_204_60]
            simp (disch := first | omega | exact q_b_01 _) only [↓reduceIte, q_bk0, q_bk1, q_bk2, q_sg_b, q_b_0, q_b_n0, q_b_1, q_b_n1, q_b_T, q_b_F, q_sg_g, q_sg_sg, q_sg_xs, q_sg_id, q_gu_ne, q_gu_eq, q_g_fne, q_g_cpe, q_w_f, q_v_f, q_u_f, q_fn_f, q_cp_f, q_sg_pg, q_sg_hc, q_lt_t, q_lt_f, q_le_t, q_le_f, q_eq_t, q_eq_f, ne_eq, eq_self, Bool.false_eq_true, Bool.true_eq_false, not_true_eq_false, not_false_eq_true, true_and, and_true, false_and, and_false, true_or, or_true, false_or, or_false, if_true, if_false, Int.reduceAdd, Int.reduceMul, Int.reduceSub, Int.reduceNeg, go, c1, mp, R_204_65, R_204_71, R_204_75, C_204_78, R_204_81, R_204_136]
        · rw [if_neg (fun h => c1 h.1)]
          have pr := q_g_rg t 267 (4 - n + j)
          rw [go] at pr
          refine ⟨t, ?_, Q1, Q2⟩
          rw [R_204_60]
          simp (disch := first | omega | exact q_b_01 _) only [↓reduceIte, q_bk0, q_bk1, q_bk2, q_sg_b, q_b_0, q_b_n0, q_b_1, q_b_n1, q_b_T, q_b_F, q_sg_g, q_sg_sg, q_sg_xs, q_sg_id, q_gu_ne, q_gu_eq, q_g_fne, q_g_cpe, q_w_f, q_v_f, q_u_f, q_fn_f, q_cp_f, q_sg_pg, q_sg_hc, q_lt_t, q_lt_f, q_le_t, q_le_f, q_eq_t, q_eq_f, ne_eq, eq_self, Bool.false_eq_true, Bool.true_eq_false, not_true_eq_false, not_false_eq_true, true_and, and_true, false_and, and_false, true_or, or_true, false_or, or_false, if_true, if_false, Int.reduceAdd, Int.reduceMul, Int.reduceSub, Int.reduceNeg, go, R_204_65, R_204_71, R_204_136]) (t := t1) ⟨a2, a3⟩
      refine ⟨t, ?_, b2, b3⟩
      rw [start]
      rw [Int.add_zero] at b1
      simp (disch := first | omega | exact q_b_01 _) only [↓reduceIte, q_bk0, q_bk1, q_bk2, q_sg_b, q_b_0, q_b_n0, q_b_1, q_b_n1, q_b_T, q_b_F, q_sg_g, q_sg_sg, q_sg_xs, q_sg_id, q_gu_ne, q_gu_eq, q_g_fne, q_g_cpe, q_w_f, q_v_f, q_u_f, q_fn_f, q_cp_f, q_sg_pg, q_sg_hc, q_lt_t, q_lt_f, q_le_t, q_le_f, q_eq_t, q_eq_f, ne_eq, eq_self, Bool.false_eq_true, Bool.true_eq_false, not_true_eq_false, not_false_eq_true, true_and, and_true, false_and, and_false, true_or, or_true, false_or, or_false, if_true, if_false, Int.reduceAdd, Int.reduceMul, Int.reduceSub, Int.reduceNeg, hP, e1, R_204_51, R_204_56]
      refine b1.trans ?_
      rw [R_204_60]
      simp (disch := first | omega | exact q_b_01 _) only [↓reduceIte, q_bk0, q_bk1, q_bk2, q_sg_b, q_b_0, q_b_n0, q_b_1, q_b_n1, q_b_T, q_b_F, q_sg_g, q_sg_sg, q_sg_xs, q_sg_id, q_gu_ne, q_gu_eq, q_g_fne, q_g_cpe, q_w_f, q_v_f, q_u_f, q_fn_f, q_cp_f, q_sg_pg, q_sg_hc, q_lt_t, q_lt_f, q_le_t, q_le_f, q_eq_t, q_eq_f, ne_eq, eq_self, Bool.false_eq_true, Bool.true_eq_false, not_true_eq_false, not_false_eq_true, true_and, and_true, false_and, and_false, true_or, or_true, false_or, or_false, if_true, if_false, Int.reduceAdd, Int.reduceMul, Int.reduceSub, Int.reduceNeg, R_204_142]
    · have ev : pfV (pMa m) (CM m) (n + 1) P = pfV (pMa m) (CM m) n P := by
        rw [pfV, if_neg hP]
      rw [ev]
      have pr := q_g_rg t1 267 (3 - n)
      rw [g267] at pr
      refine ⟨t1, ?_, a2, a3⟩
      rw [start]
      simp (disch := first | omega | exact q_b_01 _) only [↓reduceIte, q_bk0, q_bk1, q_bk2, q_sg_b, q_b_0, q_b_n0, q_b_1, q_b_n1, q_b_T, q_b_F, q_sg_g, q_sg_sg, q_sg_xs, q_sg_id, q_gu_ne, q_gu_eq, q_g_fne, q_g_cpe, q_w_f, q_v_f, q_u_f, q_fn_f, q_cp_f, q_sg_pg, q_sg_hc, q_lt_t, q_lt_f, q_le_t, q_le_f, q_eq_t, q_eq_f, ne_eq, eq_self, Bool.false_eq_true, Bool.true_eq_false, not_true_eq_false, not_false_eq_true, true_and, and_true, false_and, and_false, true_or, or_true, false_or, or_false, if_true, if_false, Int.reduceAdd, Int.reduceMul, Int.reduceSub, Int.reduceNeg, R_204_51, R_204_55]
end PFC
