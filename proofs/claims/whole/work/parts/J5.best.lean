/-! PAIRS: the reference's table -/
abbrev hb (S i : Int) : Prop := q_sg (q_and (q_shr S i) 1) = 1
noncomputable def dlt (S i : Int) : Int := q_and S (q_xor (q_shl 1 i) (-1))
noncomputable def mx (a b : Int) : Int := if b < a then a else b
abbrev mb (m : Int → Int) (a b : Int) : Prop := m (9 + 2 * a) ≠ m (9 + 2 * b)
theorem dl_fin : ∀ S : Fin 16, ∀ i : Fin 4, (0 ≤ dlt (S.val : Int) (i.val : Int) ∧ dlt (S.val : Int) (i.val : Int) ≤ S.val) ∧ (hb (S.val : Int) (i.val : Int) → dlt (S.val : Int) (i.val : Int) < S.val) := by decide +kernel
theorem hb_fin : ∀ S : Fin 16, S.val ≠ 0 → hb (S.val : Int) 0 ∨ hb (S.val : Int) 1 ∨ hb (S.val : Int) 2 ∨ hb (S.val : Int) 3 := by decide +kernel
theorem dl_rg {S i : Int} (S0 : 0 ≤ S) (S1 : S < 16) (i0 : 0 ≤ i) (i1 : i < 4) : (0 ≤ dlt S i ∧ dlt S i ≤ S) ∧ (hb S i → dlt S i < S) := by
  have h := dl_fin ⟨S.toNat, by omega⟩ ⟨i.toNat, by omega⟩
  dsimp only at h
  rw [show ((S.toNat : Nat) : Int) = S by omega, show ((i.toNat : Nat) : Int) = i by omega] at h
  exact h
theorem hb_some {S : Int} (S0 : 1 ≤ S) (S1 : S < 16) : hb S 0 ∨ hb S 1 ∨ hb S 2 ∨ hb S 3 := by
  have h := hb_fin ⟨S.toNat, by omega⟩ (by dsimp only; omega)
  dsimp only at h
  rw [show ((S.toNat : Nat) : Int) = S by omega] at h
  exact h
/-- the best beneath S, with l its least -/
noncomputable def gz (m A : Int → Int) (l R : Int) : Nat → Int
  | 0 => A R
  | k + 1 => if hb R (l + 1 + k) ∧ mb m l (l + 1 + k) then mx (gz m A l R k) (CM m l (l + 1 + k) + A (dlt R (l + 1 + k))) else gz m A l R k
noncomputable def Low (S l : Int) : Prop := 0 ≤ l ∧ l < 4 ∧ hb S l ∧ ∀ j, 0 ≤ j → j < l → ¬ hb S j
noncomputable def BsE (m A : Int → Int) (S : Int) : Prop := (S = 0 → A 0 = 0) ∧ ∀ l, Low S l → A S = gz m A l (dlt S l) (3 - l).toNat
section BST
variable {d L : Nat} {xs : Nat → Int32} {s t : Nat → Int → Int32} {O : Nat → Int64} {c : Bool × Nat × Nat} {m A A' : Int → Int} {b S l R : Int}
theorem gz_c (R0 : 0 ≤ R) (R1 : R < 16) (l0 : 0 ≤ l) (e : ∀ z, 0 ≤ z → z ≤ R → A' z = A z) : ∀ k : Nat, l + 1 + k ≤ 4 → gz m A' l R k = gz m A l R k
  | 0, _ => e R R0 (by omega)
  | k + 1, hk => by
    have ih := gz_c R0 R1 l0 e k (by omega)
    have r := (dl_rg R0 R1 (i := l + 1 + k) (by omega) (by omega)).1
    unfold gz
    rw [ih, e _ r.1 r.2]
theorem gz_rg (R0 : 0 ≤ R) (R1 : R < 16) (l0 : 0 ≤ l) (e : ∀ z, 0 ≤ z → z ≤ R → 0 ≤ A z ∧ A z ≤ 48 * z) : ∀ k : Nat, l + 1 + k ≤ 4 → 0 ≤ gz m A l R k ∧ gz m A l R k ≤ 48 * R + 48
  | 0, _ => by
    have := e R R0 (by omega)
    show 0 ≤ A R ∧ A R ≤ 48 * R + 48
    omega
  | k + 1, hk => by
    have ih := gz_rg R0 R1 l0 e k (by omega)
    have r := (dl_rg R0 R1 (i := l + 1 + k) (by omega) (by omega)).1
    have h2 := e _ r.1 r.2
    have cr := CM_rg m l (l + 1 + k)
    unfold gz mx
    split
    · split
      · exact ih
      · omega
    · exact ih
theorem Low_f {l' : Int} (h : Low S l) (h' : Low S l') : l = l' := by
  obtain ⟨a1, a2, a3, a4⟩ := h
  obtain ⟨b1, b2, b3, b4⟩ := h'
  by_cases e : l < l'
  · exact absurd a3 (b4 l a1 e)
  · by_cases e' : l' < l
    · exact absurd b3 (a4 l' b1 e')
    · omega
theorem mm_isOfH {x k : Int} : EV (d) 217 0 [.int (q_I (x)), .int (q_I (k))] [] (q_h L xs s O c) = some (.inl (some (.int (q_I (q_b (hb x k))))), q_h L xs (s) O c) := mm_isOf
theorem mm_lowest (S0 : 1 ≤ S) (S1 : S < 16) : ∃ l, Low S l ∧ EV (d + 1) 332 0 [.int (q_I (S)), .null] [] (q_h L xs s O c) = some (.inl (some (.int (q_I (l)))), q_h L xs (s) O c) := by
  have go : ∀ i : Int, ¬ hb S i → EV (d + 1) 332 2 [.int (q_I (S)), .int (q_I (i))] [] (q_h L xs s O c) = EV (d + 1) 332 2 [.int (q_I (S)), .int (q_I (i + 1))] [] (q_h L xs s O c) := fun i h => by
    have e := mm_isOfH (d := d) (L := L) (xs := xs) (s := s) (O := O) (c := c) (x := S) (k := i)
    rw [q_bf h] at e
    rw [R_332_2]
    simp (disch := first | omega | exact q_b_01 _) only [↓reduceIte, q_bk0, q_bk1, q_bk2, q_sg_b, q_b_0, q_b_n0, q_b_1, q_b_n1, q_b_T, q_b_F, q_sg_g, q_sg_sg, q_sg_xs, q_sg_id, q_gu_ne, q_gu_eq, q_g_fne, q_g_cpe, q_w_f, q_v_f, q_u_f, q_fn_f, q_cp_f, q_sg_pg, q_sg_hc, q_lt_t, q_lt_f, q_le_t, q_le_f, q_eq_t, q_eq_f, ne_eq, eq_self, Bool.false_eq_true, Bool.true_eq_false, not_true_eq_false, not_false_eq_true, true_and, and_true, false_and, and_false, true_or, or_true, false_or, or_false, if_true, if_false, Int.reduceAdd, Int.reduceMul, Int.reduceSub, Int.reduceNeg, e, C_332_4, R_332_7, R_332_10]
  have fin : ∀ i : Int, hb S i → EV (d + 1) 332 2 [.int (q_I (S)), .int (q_I (i))] [] (q_h L xs s O c) = some (.inl (some (.int (q_I (i)))), q_h L xs (s) O c) := fun i h => by
    have e := mm_isOfH (d := d) (L := L) (xs := xs) (s := s) (O := O) (c := c) (x := S) (k := i)
    rw [q_bt h] at e
    rw [R_332_2]
    simp (disch := first | omega | exact q_b_01 _) only [↓reduceIte, q_bk0, q_bk1, q_bk2, q_sg_b, q_b_0, q_b_n0, q_b_1, q_b_n1, q_b_T, q_b_F, q_sg_g, q_sg_sg, q_sg_xs, q_sg_id, q_gu_ne, q_gu_eq, q_g_fne, q_g_cpe, q_w_f, q_v_f, q_u_f, q_fn_f, q_cp_f, q_sg_pg, q_sg_hc, q_lt_t, q_lt_f, q_le_t, q_le_f, q_eq_t, q_eq_f, ne_eq, eq_self, Bool.false_eq_true, Bool.true_eq_false, not_true_eq_false, not_false_eq_true, true_and, and_true, false_and, and_false, true_or, or_true, false_or, or_false, if_true, if_false, Int.reduceAdd, Int.reduceMul, Int.reduceSub, Int.reduceNeg, e, C_332_4, R_332_7, R_332_16]
  rw [R_332_0]
  by_cases h0 : hb S 0
  · exact ⟨0, ⟨by omega, by omega, h0, fun j j0 j1 => by omega⟩, fin 0 h0⟩
  · rw [go 0 h0]
    by_cases h1 : hb S 1
    · exact ⟨1, ⟨by omega, by omega, h1, fun j j0 j1 => by rw [show j = 0 by omega]; exact h0⟩, fin 1 h1⟩
    · rw [show (0 : Int) + 1 = 1 from rfl, go 1 h1]
      by_cases h2 : hb S 2
      · exact ⟨2, ⟨by omega, by omega, h2, fun j j0 j1 => by
          rcases (show j = 0 ∨ j = 1 by omega) with e | e
          · rw [e]
            exact h0
          · rw [e]
            exact h1⟩, fin 2 h2⟩
      · rw [show (1 : Int) + 1 = 2 from rfl, go 2 h2]
        have h3 : hb S 3 := by
          rcases hb_some S0 S1 with h | h | h | h
          · exact absurd h h0
          · exact absurd h h1
          · exact absurd h h2
          · exact h
        exact ⟨3, ⟨by omega, by omega, h3, fun j j0 j1 => by
          rcases (show j = 0 ∨ j = 1 ∨ j = 2 by omega) with e | e | e
          · rw [e]
            exact h0
          · rw [e]
            exact h1
          · rw [e]
            exact h2⟩, fin 3 h3⟩
theorem mm_mayPair {a o : Int} (em : q_g s 286 = m) (a0 : 0 ≤ a) (a1 : a < 4) (o0 : 0 ≤ o) (o1 : o < 4) : EV (d) 333 0 [.ref 285, .int (q_I (a)), .int (q_I (o))] [] (q_h L xs s O c) = some (.inl (some (.int (q_I (q_b (mb m a o))))), q_h L xs (s) O c) := by
  have g1 : q_g s 286 (9 + 2 * a) = m (9 + 2 * a) := by rw [em]
  have g2 : q_g s 286 (9 + 2 * o) = m (9 + 2 * o) := by rw [em]
  have r1 := q_g_rg s 286 (9 + 2 * a)
  have r2 := q_g_rg s 286 (9 + 2 * o)
  rw [g1] at r1
  rw [g2] at r2
  by_cases e : m (9 + 2 * a) = m (9 + 2 * o)
  · rw [q_bf (fun h => h e)]
    simp (disch := first | omega | exact q_b_01 _) only [↓reduceIte, q_bk0, q_bk1, q_bk2, q_sg_b, q_b_0, q_b_n0, q_b_1, q_b_n1, q_b_T, q_b_F, q_sg_g, q_sg_sg, q_sg_xs, q_sg_id, q_gu_ne, q_gu_eq, q_g_fne, q_g_cpe, q_w_f, q_v_f, q_u_f, q_fn_f, q_cp_f, q_sg_pg, q_sg_hc, q_lt_t, q_lt_f, q_le_t, q_le_f, q_eq_t, q_eq_f, ne_eq, eq_self, Bool.false_eq_true, Bool.true_eq_false, not_true_eq_false, not_false_eq_true, true_and, and_true, false_and, and_false, true_or, or_true, false_or, or_false, if_true, if_false, Int.reduceAdd, Int.reduceMul, Int.reduceSub, Int.reduceNeg, g1, g2, e, R_333_0, R_333_11, R_333_22, R_333_25, R_333_29, R_333_30]
  · rw [q_bt (show mb m a o from e)]
    simp (disch := first | omega | exact q_b_01 _) only [↓reduceIte, q_bk0, q_bk1, q_bk2, q_sg_b, q_b_0, q_b_n0, q_b_1, q_b_n1, q_b_T, q_b_F, q_sg_g, q_sg_sg, q_sg_xs, q_sg_id, q_gu_ne, q_gu_eq, q_g_fne, q_g_cpe, q_w_f, q_v_f, q_u_f, q_fn_f, q_cp_f, q_sg_pg, q_sg_hc, q_lt_t, q_lt_f, q_le_t, q_le_f, q_eq_t, q_eq_f, ne_eq, eq_self, Bool.false_eq_true, Bool.true_eq_false, not_true_eq_false, not_false_eq_true, true_and, and_true, false_and, and_false, true_or, or_true, false_or, or_false, if_true, if_false, Int.reduceAdd, Int.reduceMul, Int.reduceSub, Int.reduceNeg, g1, g2, e, R_333_0, R_333_11, R_333_22, R_333_25, R_333_29, R_333_30]
noncomputable def BFr (s t : Nat → Int → Int32) : Prop := ∀ k z, k ≠ 307 → k ≠ 310 → t k z = s k z
theorem mm_allBest (em : q_g s 286 = m) (Hv : Vw m) : ∃ t, EV (d + 16) 334 0 [.ref 285, .null, .null, .null, .null] [] (q_h L xs s O c) = some (.inl none, q_h L xs (t) O c) ∧ (∀ S, 0 ≤ S → S < 16 → BsE m (q_g t 310) S ∧ 0 ≤ q_g t 310 S ∧ q_g t 310 S ≤ 48 * S) ∧ BFr s t := by
  obtain ⟨t, ⟨y2, y3, y4, e1⟩, e2, e3⟩ : ∃ t, (∃ y2 y3 y4 : Value, EV (d + 16) 334 9 [.ref 285, .int (q_I (1)), .null, .null, .null] [] (q_h L xs (q_u s 310 0 0) O c) = EV (d + 16) 334 9 [.ref 285, .int (q_I (16)), y2, y3, y4] [] (q_h L xs (t) O c)) ∧ (∀ S, 0 ≤ S → S < 16 → BsE m (q_g t 310) S ∧ 0 ≤ q_g t 310 S ∧ q_g t 310 S ≤ 48 * S) ∧ BFr s t := by
    have key : ∀ (n : Nat) (x : Int) (t : Nat → Int → Int32) (x2 x3 x4 : Value), 16 - x = n → 1 ≤ x → (∀ S, 0 ≤ S → S < x → BsE m (q_g t 310) S ∧ 0 ≤ q_g t 310 S ∧ q_g t 310 S ≤ 48 * S) → BFr s t → ∃ u, (∃ y2 y3 y4 : Value, EV (d + 16) 334 9 [.ref 285, .int (q_I (x)), x2, x3, x4] [] (q_h L xs (t) O c) = EV (d + 16) 334 9 [.ref 285, .int (q_I (16)), y2, y3, y4] [] (q_h L xs (u) O c)) ∧ (∀ S, 0 ≤ S → S < 16 → BsE m (q_g u 310) S ∧ 0 ≤ q_g u 310 S ∧ q_g u 310 S ≤ 48 * S) ∧ BFr s u := by
      intro n
      induction n with
      | zero =>
        intro x t x2 x3 x4 hx x1 hA hF
        have e : x = 16 := by omega
        subst e
        exact ⟨t, ⟨x2, x3, x4, rfl⟩, hA, hF⟩
      | succ n ih =>
        intro x t x2 x3 x4 hx x1 hA hF
        obtain ⟨l, hl, lw⟩ := mm_lowest (d := d + 14) (L := L) (xs := xs) (s := t) (O := O) (c := c) (S := x) x1 (by omega)
        obtain ⟨l0, l1, l2, l3⟩ := id hl
        have dr := dl_rg (S := x) (i := l) (by omega) (by omega) l0 l1
        have dr2 := dr.2 l2
        have dR := dr.1.1
        have hR : ∀ z, 0 ≤ z → z ≤ dlt x l → 0 ≤ q_g t 310 z ∧ q_g t 310 z ≤ 48 * z := fun z z0 z1 => (hA z z0 (by omega)).2
        have edl : q_and x (q_xor (q_shl 1 l) (-1)) = dlt x l := rfl
        have r0 := hR (dlt x l) dR (Int.le_refl _)
        generalize hRR : dlt x l = RR at *
        obtain ⟨u, u1, u2, u3⟩ := q_for (fun j u => EV (d + 16) 334 45 [.ref 285, .int (q_I (x)), .int (q_I (l)), .int (q_I (RR)), .int (q_I (l + 1 + j))] [] (q_h L xs (u) O c)) (fun j u => q_g u 310 x = gz m (q_g t 310) l RR j.toNat ∧ (∀ z, z ≠ x → q_g u 310 z = q_g t 310 z) ∧ BFr s u) (lo := 0) (hi := 3 - l) (by omega) (fun j u j0 j1 Q => by
          obtain ⟨Q1, Q2, Q3⟩ := Q
          have eu : q_g u 286 = m := by
            rw [← em]
            exact funext fun z => by
              show (u 286 z).toInt = _
              rw [Q3 286 z (by omega) (by omega)]
              rfl
          have gr := gz_rg (m := m) (A := q_g t 310) (l := l) dR (by omega) l0 hR j.toNat (by omega)
          have eg : gz m (q_g t 310) l RR (j + 1).toNat = if hb RR (l + 1 + j) ∧ mb m l (l + 1 + j) then mx (gz m (q_g t 310) l RR j.toNat) (CM m l (l + 1 + j) + q_g t 310 (dlt RR (l + 1 + j))) else gz m (q_g t 310) l RR j.toNat := by
            rw [show (j + 1).toNat = j.toNat + 1 by omega, gz, show ((j.toNat : Nat) : Int) = j by omega]
          have ej : l + 1 + (j + 1) = l + 1 + j + 1 := by omega
          rw [eg, ej]
          have h1 := mm_isOfH (d := d + 15) (L := L) (xs := xs) (s := u) (O := O) (c := c) (x := RR) (k := l + 1 + j)
          have h2 := mm_mayPair (d := d + 15) (L := L) (xs := xs) (O := O) (c := c) eu l0 l1 (o := l + 1 + j) (by omega) (by omega)
          by_cases c1 : hb RR (l + 1 + j)
          · rw [q_bt c1] at h1
            by_cases c2 : mb m l (l + 1 + j)
            · rw [q_bt c2] at h2
              rw [if_pos ⟨c1, c2⟩]
              have cm := mm_commonOf (d := d) (L := L) (xs := xs) (O := O) (c := c) eu Hv l0 (show l < 5 by omega) (o := l + 1 + j) (by omega) (by omega)
              generalize hV : q_v u 307 0 48 (fun q => q_I (mk m q)) = V at cm
              have vN : ∀ k z, k ≠ 307 → V k z = u k z := fun k z hk => by
                rw [← hV]
                exact if_neg (fun e => hk e.1)
              have d2 := (dl_rg dR (show RR < 16 by omega) (i := l + 1 + j) (by omega) (by omega)).1
              have vd : q_g V 310 (dlt RR (l + 1 + j)) = q_g t 310 (dlt RR (l + 1 + j)) := by
                rw [← Q2 _ (by omega)]
                show (V 310 _).toInt = _
                rw [vN 310 _ (by omega)]
                rfl
              have cr := CM_rg m l (l + 1 + j)
              have ar := hR _ d2.1 d2.2
              have ed2 : q_and RR (q_xor (q_shl 1 (l + 1 + j)) (-1)) = dlt RR (l + 1 + j) := rfl
              have gt := mm_greater (d := d + 15) (L := L) (xs := xs) (s := V) (O := O) (c := c) (a := gz m (q_g t 310) l RR j.toNat) (b := CM m l (l + 1 + j) + q_g t 310 (dlt RR (l + 1 + j)))
              rw [q_sg_id (x := gz m (q_g t 310) l RR j.toNat) (by omega) (by omega), q_sg_id (x := CM m l (l + 1 + j) + q_g t 310 (dlt RR (l + 1 + j))) (by omega) (by omega)] at gt
              have gt' : (if CM m l (l + 1 + j) + q_g t 310 (dlt RR (l + 1 + j)) < gz m (q_g t 310) l RR j.toNat then gz m (q_g t 310) l RR j.toNat else CM m l (l + 1 + j) + q_g t 310 (dlt RR (l + 1 + j))) = mx (gz m (q_g t 310) l RR j.toNat) (CM m l (l + 1 + j) + q_g t 310 (dlt RR (l + 1 + j))) := rfl
              rw [gt'] at gt
              have mr : 0 ≤ mx (gz m (q_g t 310) l RR j.toNat) (CM m l (l + 1 + j) + q_g t 310 (dlt RR (l + 1 + j))) ∧ mx (gz m (q_g t 310) l RR j.toNat) (CM m l (l + 1 + j) + q_g t 310 (dlt RR (l + 1 + j))) ≤ 2000 := by
                unfold mx
                split
                · omega
                · omega
              generalize mx (gz m (q_g t 310) l RR j.toNat) (CM m l (l + 1 + j) + q_g t 310 (dlt RR (l + 1 + j))) = M at gt mr
              refine ⟨q_u V 310 x M, ?_, by rw [q_gu_eq rfl, q_sg_id (by omega) (by omega)], fun z hz => ?_, fun k z k1 k2 => by rw [q_u_n (by omega), vN k z k1, Q3 k z k1 k2]⟩
              · rw [R_334_45]
                rw [← ed2] at vd d2
                have gt2 := gt
                rw [← ed2] at gt2
                simp (disch := first | omega | exact q_b_01 _) only [↓reduceIte, q_bk0, q_bk1, q_bk2, q_sg_b, q_b_0, q_b_n0, q_b_1, q_b_n1, q_b_T, q_b_F, q_sg_g, q_sg_sg, q_sg_xs, q_sg_id, q_gu_ne, q_gu_eq, q_g_fne, q_g_cpe, q_w_f, q_v_f, q_u_f, q_fn_f, q_cp_f, q_sg_pg, q_sg_hc, q_lt_t, q_lt_f, q_le_t, q_le_f, q_eq_t, q_eq_f, ne_eq, eq_self, Bool.false_eq_true, Bool.true_eq_false, not_true_eq_false, not_false_eq_true, true_and, and_true, false_and, and_false, true_or, or_true, false_or, or_false, if_true, if_false, Int.reduceAdd, Int.reduceMul, Int.reduceSub, Int.reduceNeg, h1, h2, Q1, cm, vd, gt2, R_334_51, C_334_54, R_334_57, R_334_60, C_334_64, R_334_67, R_334_70, R_334_81, C_334_85, R_334_88, R_334_101, C_334_102, R_334_105, R_334_106]
              · rw [q_gu_ne (by omega)]
                show (V 310 z).toInt = _
                rw [vN 310 z (by omega)]
                exact Q2 z hz
            · rw [q_bf c2] at h2
              rw [if_neg (fun h => c2 h.2)]
              refine ⟨u, ?_, Q1, Q2, Q3⟩
              rw [R_334_45]
              simp (disch := first | omega | exact q_b_01 _) only [↓reduceIte, q_bk0, q_bk1, q_bk2, q_sg_b, q_b_0, q_b_n0, q_b_1, q_b_n1, q_b_T, q_b_F, q_sg_g, q_sg_sg, q_sg_xs, q_sg_id, q_gu_ne, q_gu_eq, q_g_fne, q_g_cpe, q_w_f, q_v_f, q_u_f, q_fn_f, q_cp_f, q_sg_pg, q_sg_hc, q_lt_t, q_lt_f, q_le_t, q_le_f, q_eq_t, q_eq_f, ne_eq, eq_self, Bool.false_eq_true, Bool.true_eq_false, not_true_eq_false, not_false_eq_true, true_and, and_true, false_and, and_false, true_or, or_true, false_or, or_false, if_true, if_false, Int.reduceAdd, Int.reduceMul, Int.reduceSub, Int.reduceNeg, h1, h2, R_334_51, C_334_54, R_334_57, R_334_60, C_334_64, R_334_67, R_334_106]
          · rw [q_bf c1] at h1
            rw [if_neg (fun h => c1 h.1)]
            refine ⟨u, ?_, Q1, Q2, Q3⟩
            rw [R_334_45]
            simp (disch := first | omega | exact q_b_01 _) only [↓reduceIte, q_bk0, q_bk1, q_bk2, q_sg_b, q_b_0, q_b_n0, q_b_1, q_b_n1, q_b_T, q_b_F, q_sg_g, q_sg_sg, q_sg_xs, q_sg_id, q_gu_ne, q_gu_eq, q_g_fne, q_g_cpe, q_w_f, q_v_f, q_u_f, q_fn_f, q_cp_f, q_sg_pg, q_sg_hc, q_lt_t, q_lt_f, q_le_t, q_le_f, q_eq_t, q_eq_f, ne_eq, eq_self, Bool.false_eq_true, Bool.true_eq_false, not_true_eq_false, not_false_eq_true, true_and, and_true, false_and, and_false, true_or, or_true, false_or, or_false, if_true, if_false, Int.reduceAdd, Int.reduceMul, Int.reduceSub, Int.reduceNeg, h1, R_334_51, C_334_54, R_334_57, R_334_106]) (t := q_u t 310 x (q_g t 310 RR)) ⟨by rw [q_gu_eq rfl, q_sg_g]; rfl, fun z hz => by rw [q_gu_ne (by omega)], fun k z k1 k2 => by rw [q_u_n (by omega), hF k z k1 k2]⟩
        rw [Int.add_zero, show l + 1 + (3 - l) = 4 by omega] at u1
        have gr := gz_rg (m := m) (A := q_g t 310) (l := l) dR (by omega) l0 hR (3 - l).toNat (by omega)
        obtain ⟨u4, u5⟩ := u3
        obtain ⟨w, ⟨y2, y3, y4, w1⟩, w2, w3⟩ := ih (x + 1) u (.int (q_I l)) (.int (q_I RR)) (.int (q_I 4)) (by omega) (by omega) (fun S S0 S1 => by
          by_cases e : S = x
          · subst e
            refine ⟨⟨fun h => by omega, fun l' h' => ?_⟩, by rw [u2]; exact gr.1, by rw [u2]; omega⟩
            have e' := Low_f h' hl
            subst e'
            rw [u2, hRR]
            exact (gz_c dR (by omega) l0 (fun z z0 z1 => u4 z (by omega)) _ (by omega)).symm
          · obtain ⟨⟨b1, b2⟩, b3⟩ := hA S S0 (by omega)
            rw [u4 S e]
            refine ⟨⟨fun h => by rw [u4 0 (by omega)]; exact b1 h, fun l' h' => ?_⟩, b3⟩
            have dS := dl_rg (S := S) (i := l') S0 (by omega) h'.1 h'.2.1
            rw [u4 S e, b2 l' h']
            exact (gz_c dS.1.1 (by omega) h'.1 (fun z z0 z1 => u4 z (by omega)) _ (by have := h'.2.1; omega)).symm) u5
        refine ⟨w, ⟨y2, y3, y4, ?_⟩, w2, w3⟩
        rw [← w1, R_334_9]
        have hRR' : q_and x (q_xor (q_shl 1 l) (-1)) = RR := hRR
        have b0 : 0 ≤ q_and x (q_xor (q_shl 1 l) (-1)) := by rw [hRR']; exact dR
        have b1 : q_and x (q_xor (q_shl 1 l) (-1)) < 16 := by rw [hRR']; omega
        simp (disch := first | omega | exact q_b_01 _) only [↓reduceIte, q_bk0, q_bk1, q_bk2, q_sg_b, q_b_0, q_b_n0, q_b_1, q_b_n1, q_b_T, q_b_F, q_sg_g, q_sg_sg, q_sg_xs, q_sg_id, q_gu_ne, q_gu_eq, q_g_fne, q_g_cpe, q_w_f, q_v_f, q_u_f, q_fn_f, q_cp_f, q_sg_pg, q_sg_hc, q_lt_t, q_lt_f, q_le_t, q_le_f, q_eq_t, q_eq_f, ne_eq, eq_self, Bool.false_eq_true, Bool.true_eq_false, not_true_eq_false, not_false_eq_true, true_and, and_true, false_and, and_false, true_or, or_true, false_or, or_false, if_true, if_false, Int.reduceAdd, Int.reduceMul, Int.reduceSub, Int.reduceNeg, lw, R_334_15, C_334_16, R_334_19, R_334_39, R_334_40]
        rw [hRR', u1, R_334_45]
        simp (disch := first | omega | exact q_b_01 _) only [↓reduceIte, q_bk0, q_bk1, q_bk2, q_sg_b, q_b_0, q_b_n0, q_b_1, q_b_n1, q_b_T, q_b_F, q_sg_g, q_sg_sg, q_sg_xs, q_sg_id, q_gu_ne, q_gu_eq, q_g_fne, q_g_cpe, q_w_f, q_v_f, q_u_f, q_fn_f, q_cp_f, q_sg_pg, q_sg_hc, q_lt_t, q_lt_f, q_le_t, q_le_f, q_eq_t, q_eq_f, ne_eq, eq_self, Bool.false_eq_true, Bool.true_eq_false, not_true_eq_false, not_false_eq_true, true_and, and_true, false_and, and_false, true_or, or_true, false_or, or_false, if_true, if_false, Int.reduceAdd, Int.reduceMul, Int.reduceSub, Int.reduceNeg, R_334_112]
    exact key 15 1 (q_u s 310 0 0) .null .null .null (by omega) (by omega) (fun S S0 S1 => by
      have e : S = 0 := by omega
      subst e
      have g0 : q_g (q_u s 310 0 0) 310 0 = 0 := by rw [q_gu_eq rfl]; rfl
      refine ⟨⟨fun _ => g0, fun l hl => ?_⟩, by rw [g0]; omega, by rw [g0]; omega⟩
      exfalso
      have z : ∀ i : Fin 4, ¬ hb 0 (i.val : Int) := by decide +kernel
      have := z ⟨l.toNat, by have := hl.1; have := hl.2.1; omega⟩
      dsimp only at this
      rw [show ((l.toNat : Nat) : Int) = l by have := hl.1; omega] at this
      exact this hl.2.2.1) (fun k z k1 k2 => q_u_n (by omega))
  refine ⟨t, ?_, e2, e3⟩
  rw [R_334_0, R_334_7]
  refine e1.trans ?_
  rw [R_334_9]
  simp (disch := first | omega | exact q_b_01 _) only [↓reduceIte, q_bk0, q_bk1, q_bk2, q_sg_b, q_b_0, q_b_n0, q_b_1, q_b_n1, q_b_T, q_b_F, q_sg_g, q_sg_sg, q_sg_xs, q_sg_id, q_gu_ne, q_gu_eq, q_g_fne, q_g_cpe, q_w_f, q_v_f, q_u_f, q_fn_f, q_cp_f, q_sg_pg, q_sg_hc, q_lt_t, q_lt_f, q_le_t, q_le_f, q_eq_t, q_eq_f, ne_eq, eq_self, Bool.false_eq_true, Bool.true_eq_false, not_true_eq_false, not_false_eq_true, true_and, and_true, false_and, and_false, true_or, or_true, false_or, or_false, if_true, if_false, Int.reduceAdd, Int.reduceMul, Int.reduceSub, Int.reduceNeg, R_334_118]
end BST
