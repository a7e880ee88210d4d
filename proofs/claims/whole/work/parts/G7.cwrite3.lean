/-! A WRITE of the class is what was planned -/
section OWP
variable {D : Ar} {tq pf ow pl : Int → Int} {N : Int}
/-- the node that page q will have -/
noncomputable def OwR (D : Ar) (N : Int) (pf ow pl : Int → Int) (q : Int) : Prop :=
  2 ≤ ow q ∧ ow q < N ∧ D.K (ow q) = pl (16 * q) ∧ (pl (16 * q) = 1 ∨ pl (16 * q) = 2) ∧ D.R (ow q) = pl (16 * q + 1) ∧ 1 ≤ pl (16 * q + 1) ∧ pl (16 * q + 1) ≤ 4 ∧ pl (16 * q + 3) = -1 ∧ ∀ e, 0 ≤ e → e < pl (16 * q + 1) → D.A (ow q) e = pl (16 * q + (4 + e)) ∧ (pl (16 * q) = 2 → 2 ≤ D.B (ow q) e ∧ D.B (ow q) e < N ∧ pf (D.B (ow q) e) = pl (16 * q + (10 + e))) ∧ (pl (16 * q) = 1 → D.B (ow q) e = pl (16 * q + (10 + e)))
theorem own_pl : ∀ {t : Tr} {h : Nat} {lo hi k x : Int}, Okt t h lo hi → Sub D N t x → Lab D tq pf t k x → OwL D tq ow t k x → PlN tq pl t k → ∀ i, k ≤ i → i < k + cN t → OwR D N pf ow pl (tq i) := by
  intro t
  induction t using Tr_rc with
  | lf p n a b =>
    try dsimp only [Okt_e1, Okt_e2, Lab_e1, Lab_e2, OwL_e1, OwL_e2, PlN_e1, PlN_e2] at *
    intro h lo hi k x o S lb ol pn i i0 i1
    by_cases hp : p = -1
    · have ec : cN (.lf p n a b) = 1 := by
        rw [cN_e1]
        rw [if_pos hp]
      have e : i = k := by omega
      rw [e]
      have hx : ow (tq k) = x := ol hp
      obtain ⟨q1, q2, q3, q4⟩ := pn hp
      obtain ⟨r1, r2, r3, r4, r5, r6⟩ := Sub_R1 S
      have xr := S.2.2 x rfl
      obtain ⟨o1, o2, o3, o4⟩ := o
      unfold OwR
      rw [hx, q1, q2, q3]
      try dsimp only [Okt_e1, Okt_e2, Lab_e1, Lab_e2, OwL_e1, OwL_e2, PlN_e1, PlN_e2]
      refine ⟨xr.1, xr.2, r1, Or.inl rfl, r2, o2, o3, rfl, fun e e0 e1 => ?_⟩
      obtain ⟨b1, b2⟩ := q4 e e0 e1
      obtain ⟨c1, c2⟩ := r6 e e0 e1
      exact ⟨c1.trans b1.symm, fun z => by omega, fun _ => c2.trans b2.symm⟩
    · have ec : cN (.lf p n a b) = 0 := by
        rw [cN_e1]
        rw [if_neg hp]
      omega
  | br p n a c ih =>
    try dsimp only [Okt_e1, Okt_e2, Lab_e1, Lab_e2, OwL_e1, OwL_e2, PlN_e1, PlN_e2] at *
    intro h lo hi k x o S lb ol pn i i0 i1
    by_cases hp : p = -1
    · have ec : cN (.br p n a c) = 1 + smz (fun i => cN (c i)) n.toNat := by
        rw [cN_e2]
        rw [if_pos hp]
      obtain ⟨h1, h2⟩ := ol hp
      obtain ⟨⟨q1, q2, q3, q4⟩, q5⟩ := pn hp
      obtain ⟨r1, r2, r3, r4, r5, r6⟩ := Sub_R2 S
      have xr := S.2.2 x (Or.inl rfl)
      obtain ⟨h', eh, n0, n4, r⟩ := o
      have lk := lb.2 hp
      by_cases e : i = k
      · rw [e]
        unfold OwR
        rw [h1, q1, q2, q3]
        try dsimp only [Okt_e1, Okt_e2, Lab_e1, Lab_e2, OwL_e1, OwL_e2, PlN_e1, PlN_e2]
        refine ⟨xr.1, xr.2, r1, Or.inr rfl, r2, n0, n4, rfl, fun e e0 e1 => ?_⟩
        obtain ⟨b1, b2⟩ := q4 e e0 e1
        have kr := (Sub_kid S e0 e1).2.2 _ (Wi_self _ _ _)
        exact ⟨(r6 e e0 e1).1.trans b1.symm, fun _ => ⟨kr.1, kr.2, (Lab_pg (lk e e0 e1)).trans b2.symm⟩, fun z => by omega⟩
      · obtain ⟨j, j0, j1, j2, j3⟩ := smz_find (f := fun i => cN (c i)) n.toNat (r := i - k - 1) (by omega) (by omega)
        exact ih j (r j j0 (by omega)).2.2 (Sub_kid S j0 (by omega)) (lk j j0 (by omega)) (h2 j j0 (by omega)) (q5 j j0 (by omega)) i (by omega) (by omega)
    · have ec : cN (.br p n a c) = 0 := by
        rw [cN_e2]
        rw [if_neg hp]
      omega
end OWP
section CW3
variable {d L : Nat} {xs : Nat → Int32} {s u : Nat → Int → Int32} {O : Nat → Int64} {c : Bool × Nat × Nat} {m x pl : Int → Int} {T : Option Tr} {Lf : Int → Prop} {sc q : Int}
theorem wpg_at {w : Int} (w0 : 0 ≤ w) (w1 : w < 16) (w2 : w ≠ 2) : pg (wpg pl q x) q w = pl (16 * q + w) := by
  unfold pg wpg
  rw [if_pos (by omega), if_neg (by omega), show 281 + 16 * q + w - 281 = 16 * q + w by omega]
theorem wpg_2 : pg (wpg pl q x) q 2 = mn 9999 (pg x q 2 + 1) := by
  unfold pg wpg
  rw [if_pos (by omega), if_pos (by omega)]
theorem wpg_n {z : Int} (h : ¬ (281 + 16 * q ≤ z ∧ z < 297 + 16 * q)) : wpg pl q x z = x z := if_neg h
theorem wpg_o {p w : Int} (hp : p ≠ q) (w0 : 0 ≤ w) (w1 : w < 16) : pg (wpg pl q x) p w = pg x p w := wpg_n (by omega)
theorem PlanC_sm (P : PlanC m T Lf sc s) (h : ∀ k z, 241 ≤ k → k ≤ 259 → u k z = s k z) : PlanC m T Lf sc u := by
  have g : ∀ k z, 241 ≤ k → k ≤ 259 → q_g u k z = q_g s k z := fun k z a b => by
    show (u k z).toInt = _
    rw [h k z a b]
    rfl
  have gf : ∀ k, 241 ≤ k → k ≤ 259 → q_g u k = q_g s k := fun k a b => funext fun z => g k z a b
  have eD : dC u = dC s := dC_c (fun k a b => funext fun z => h k z (by omega) (by omega))
  unfold PlanC LoC at *
  rw [eD, gf 255 (by omega) (by omega), gf 254 (by omega) (by omega), gf 256 (by omega) (by omega), gf 259 (by omega) (by omega), gf 257 (by omega) (by omega), gf 258 (by omega) (by omega), gf 242 (by omega) (by omega), gf 241 (by omega) (by omega)]
  exact P
/-- which page is written so -/
noncomputable def WrK (m : Int → Int) (T : Option Tr) (sc q : Int) : Prop := (∃ i, 0 ≤ i ∧ i < cNo T + sc ∧ q = tp m i) ∨ q = 1 - hd m
theorem own_node (P : PlanC m T Lf sc s) (PT : PTo T) (pI : PlI m T Lf sc pl) {i : Int} (i0 : 0 ≤ i) (i1 : i < cNo T) : OwR (dC s) 176 (q_g s 255) (q_g s 254) pl (tp m i) := by
  cases T with
  | none =>
    have e : cNo none = 0 := rfl
    omega
  | some t =>
    obtain ⟨h, h12, o, hz⟩ := PT
    obtain ⟨a1, a2, a3⟩ := P.2.1 t rfl
    have e : cNo (some t) = cN t := rfl
    exact own_pl o a1 a2 a3 (pI.1 t rfl) i i0 (by omega)
theorem cc_write (Tk : TkI m) (P : PlanC m T Lf sc s) (PT : PTo T) (pI : PlI m T Lf sc pl) (kc : cNo T + sc ≤ cap m) (s0 : 0 ≤ sc) (s8 : sc ≤ 8) (H : RB x s 7) (hr : ∀ q, 0 ≤ q → q < 48 → 0 ≤ pg x q 1 ∧ pg x q 1 ≤ 6) (h8 : x 8 ≤ 12) (h6 : x 6 ≤ 60) (hq : WrK m T sc q) (w0 : 0 ≤ pg x q 2) (w1 : pg x q 2 ≤ 9999) : ∃ u, EV (d + 4) 98 0 [.ref 241, .ref 8, .int (q_I (q))] [] (q_h L xs s O c) = some (.inl none, q_h L xs (u) O c) ∧ RB (wpg pl q x) u 7 ∧ PgF s q u := by
  have hh := hd_01 m
  have k0 : 0 ≤ cNo T := by
    cases T with
    | none => exact Int.le_refl _
    | some t => exact cN_0 t
  have cp96 : cap m ≤ 96 := by
    have := nu_le (m := m) (p := 48) (by omega)
    have := Tk.2
    unfold cap
    omega
  have q48 : 0 ≤ q ∧ q < 48 := by
    rcases hq with ⟨i, i0, i1, e⟩ | e
    · have := tp_rg Tk i0 (show i < cap m by omega)
      omega
    · omega
  have ew : q_g s 11 q = pg x q 2 := rb_wear H q48.1 q48.2
  have ii := cc_isInner (d := d + 3) (L := L) (xs := xs) (s := s) (O := O) (c := c) (p := q)
  have fin : ∀ {K n nx : Int} {A V : Int → Int} {u : Nat → Int → Int32}, PgW s q K n nx A V u → K = pl (16 * q) → n = pl (16 * q + 1) → nx = pl (16 * q + 3) → n ≤ 6 → (∀ e, 0 ≤ e → e < n → A e = pl (16 * q + (4 + e)) ∧ V e = pl (16 * q + (10 + e))) → (q < 2 → pl (16 * q) = 4 → ∀ w, 0 ≤ w → w < 4 → q_g u 15 (q * 4 + w) = pl (16 * q + (4 + w))) → RB (wpg pl q x) u 7 := fun {K n nx A V u} W hK hn hx n6 hA hH => by
    obtain ⟨a1, a2, a3, a4, a5, a6⟩ := W
    have p0 : pg (wpg pl q x) q 0 = pl (16 * q) := by rw [wpg_at (by omega) (by omega) (by omega), Int.add_zero]
    have p1 : pg (wpg pl q x) q 1 = pl (16 * q + 1) := wpg_at (by omega) (by omega) (by omega)
    refine RB_pg H q48.1 q48.2 hr h8 h6 (fun z hz => wpg_n hz) a6 (by rw [p0, a1, hK]) (by rw [p1, a2, hn]) (by rw [wpg_2, a4, ew]) (by rw [wpg_at (by omega) (by omega) (by omega), a3, hx]) (fun k k0 k1 => ?_) (fun q2 hk w w0 w1 => ?_)
    · rw [p1, ← hn] at k1
      obtain ⟨b1, b2⟩ := a5 k k0 k1
      obtain ⟨c1, c2⟩ := hA k k0 k1
      rw [wpg_at (by omega) (by omega) (by omega), wpg_at (by omega) (by omega) (by omega), b1, b2]
      exact ⟨c1, c2⟩
    · rw [p0] at hk
      rw [wpg_at (by omega) (by omega) (by omega)]
      exact hH q2 hk w w0 w1
  rcases hq with ⟨i, i0, i1, e⟩ | e
  · have tr := tp_rg Tk i0 (show i < cap m by omega)
    rw [q_bt (by rw [q_sg_id (by omega) (by omega)]; omega)] at ii
    by_cases ik : i < cNo T
    · obtain ⟨o1, o2, o3, o4, o5, o6, o7, o8, o9⟩ := own_node P PT pI i0 ik
      rw [← e] at o1 o2 o3 o4 o5 o6 o7 o8 o9
      have o3 : q_g s 243 (q_g s 254 q) = pl (16 * q) := o3
      have o5 : q_g s 244 (q_g s 254 q) = pl (16 * q + 1) := o5
      obtain ⟨u, u1, u2⟩ := cc_writeNode (d := d) (L := L) (xs := xs) (s := s) (O := O) (c := c) (p := q) (y := q_g s 254 q) (n := pl (16 * q + 1)) (K := pl (16 * q)) (V := fun e => pl (16 * q + (10 + e))) q48.1 q48.2 (by omega) (by omega) (by omega) (by omega) o3 o5 (by omega) (by omega) (fun e e0 e1 => by
        obtain ⟨b1, b2, b3⟩ := o9 e e0 e1
        rw [show q_g s 254 q * 6 + e = 6 * q_g s 254 q + e by omega]
        refine ⟨fun k2 => ?_, fun k2 => b3 (by omega)⟩
        obtain ⟨c1, c2, c3⟩ := b2 k2
        have c1 : 2 ≤ q_g s 246 (6 * q_g s 254 q + e) := c1
        exact ⟨by omega, c2, c3⟩)
      refine ⟨u, ?_, fin u2 rfl rfl o8.symm (by omega) (fun e e0 e1 => ?_) (fun h => by omega), u2.2.2.2.2.2⟩
      · simp (disch := first | omega | exact q_b_01 _) only [↓reduceIte, q_bk0, q_bk1, q_bk2, q_sg_b, q_b_0, q_b_n0, q_b_1, q_b_n1, q_b_T, q_b_F, q_sg_g, q_sg_sg, q_sg_xs, q_sg_id, q_gu_ne, q_gu_eq, q_g_fne, q_g_cpe, q_w_f, q_v_f, q_u_f, q_fn_f, q_cp_f, q_sg_pg, q_sg_hc, q_lt_t, q_lt_f, q_le_t, q_le_f, q_eq_t, q_eq_f, ne_eq, eq_self, Bool.false_eq_true, Bool.true_eq_false, not_true_eq_false, not_false_eq_true, true_and, and_true, false_and, and_false, true_or, or_true, false_or, or_false, if_true, if_false, Int.reduceAdd, Int.reduceMul, Int.reduceSub, Int.reduceNeg, ii, u1, R_98_0, R_98_4, R_98_7, R_98_13, R_98_16, R_98_22, R_98_28, R_98_37, R_98_44, R_98_47, R_98_53, R_98_56, R_98_68, C_98_1, C_98_10, C_98_41, C_98_65]
      · refine ⟨?_, rfl⟩
        show q_g s 245 (q_g s 254 q * 6 + e) = _
        rw [show q_g s 254 q * 6 + e = 6 * q_g s 254 q + e by omega]
        exact (o9 e e0 e1).1
    · obtain ⟨f1, f2⟩ := P.2.2.1
      obtain ⟨g1, g2⟩ := f2 (i - cNo T) (by omega) (by omega)
      rw [show cNo T + (i - cNo T) = i by omega, ← e] at g1 g2
      obtain ⟨l1, l2, l3, l4, l5⟩ := P.2.2.2.1
      obtain ⟨p1, p2, p3, p4⟩ := pI.2.1 (i - cNo T) (by omega) (by omega)
      rw [show cNo T + (i - cNo T) = i by omega, ← e] at p1 p2 p3 p4
      have RCr := cnP_rg (P := Rw m Lf (cNo T + sc)) (p := 48) (by omega)
      obtain ⟨u, u1, u2⟩ := cc_writeSlip (d := d) (L := L) (xs := xs) (s := s) (O := O) (c := c) (p := q) (i := i - cNo T) (RC := cnP (Rw m Lf (cNo T + sc)) 48) (sc := sc) q48.1 q48.2 (by omega) (by omega) (by omega) (by omega) l4 RCr.1 RCr.2 f1 s0 (by omega)
      have nr : rws (cnP (Rw m Lf (cNo T + sc)) 48) (i - cNo T) 6 ≤ 6 ∧ ∀ e, 0 ≤ e → e < rws (cnP (Rw m Lf (cNo T + sc)) 48) (i - cNo T) 6 → 6 * (i - cNo T) + e < cnP (Rw m Lf (cNo T + sc)) 48 := by
        unfold rws
        constructor
        · repeat' split
          all_goals omega
        · intro e e0
          repeat' split
          all_goals omega
      refine ⟨u, ?_, fin u2 p1.symm p2.symm ?_ nr.1 (fun e e0 e1 => ?_) (fun h => by omega), u2.2.2.2.2.2⟩
      · have g2' : q_g s 254 q - 176 = i - cNo T := by omega
        simp (disch := first | omega | exact q_b_01 _) only [↓reduceIte, q_bk0, q_bk1, q_bk2, q_sg_b, q_b_0, q_b_n0, q_b_1, q_b_n1, q_b_T, q_b_F, q_sg_g, q_sg_sg, q_sg_xs, q_sg_id, q_gu_ne, q_gu_eq, q_g_fne, q_g_cpe, q_w_f, q_v_f, q_u_f, q_fn_f, q_cp_f, q_sg_pg, q_sg_hc, q_lt_t, q_lt_f, q_le_t, q_le_f, q_eq_t, q_eq_f, ne_eq, eq_self, Bool.false_eq_true, Bool.true_eq_false, not_true_eq_false, not_false_eq_true, true_and, and_true, false_and, and_false, true_or, or_true, false_or, or_false, if_true, if_false, Int.reduceAdd, Int.reduceMul, Int.reduceSub, Int.reduceNeg, ii, g2', u1, R_98_0, R_98_4, R_98_7, R_98_13, R_98_16, R_98_22, R_98_28, R_98_37, R_98_44, R_98_47, R_98_53, R_98_56, R_98_68, C_98_1, C_98_10, C_98_41, C_98_65]
      · rw [p3]
        by_cases c1 : i - cNo T + 1 < sc
        · rw [if_pos c1, if_pos c1]
          exact (f2 (i - cNo T + 1) (by omega) c1).1
        · rw [if_neg c1, if_neg c1]
      · obtain ⟨p, b0, b1, b2, b3⟩ := cnP_ex48 (P := Rw m Lf (cNo T + sc)) (k := 6 * (i - cNo T) + e) (by omega) (nr.2 e e0 e1)
        obtain ⟨c1, c2⟩ := l5 p b0 b1 b2
        obtain ⟨d1, d2⟩ := p4 e e0 (by omega) p b0 b1 b2 b3
        rw [b3] at c1 c2
        exact ⟨c1.trans d1.symm, c2.trans d2.symm⟩
  · rw [q_bf (by rw [q_sg_id (by omega) (by omega)]; omega)] at ii
    obtain ⟨h1, h2, h3, h4, h5, h6', h7⟩ := pI.2.2
    rw [← e] at h1 h2 h3 h4 h5 h6' h7
    obtain ⟨f1, f2⟩ := P.2.2.1
    have hrt : (q_g s 242 10 = -1 ∧ rtp m T = -1) ∨ (0 ≤ q_g s 242 10 ∧ q_g s 242 10 < 176 ∧ q_g s 255 (q_g s 242 10) = rtp m T) := by
      cases T with
      | none => exact Or.inl ⟨P.1 rfl, rfl⟩
      | some t =>
        obtain ⟨a1, a2, a3⟩ := P.2.1 t rfl
        have := a1.2.2 _ (Wi_self _ _ _)
        exact Or.inr ⟨by omega, this.2, Lab_pg a2⟩
    obtain ⟨u, u1, u2, u3, u4, u5, u6⟩ := cc_writeHead (d := d) (L := L) (xs := xs) (s := s) (O := O) (c := c) (h := q) (rt := rtp m T) (ls := if q_g s 241 5 = 0 then -1 else q_g s 256 0) (by omega) (by omega) (by omega) (by omega) hrt rfl
    refine ⟨u, ?_, fin u2 h1.symm h2.symm h3.symm (by omega) (fun e e0 e1 => by omega) (fun _ _ w w0 w1 => ?_), u2.2.2.2.2.2⟩
    · simp (disch := first | omega | exact q_b_01 _) only [↓reduceIte, q_bk0, q_bk1, q_bk2, q_sg_b, q_b_0, q_b_n0, q_b_1, q_b_n1, q_b_T, q_b_F, q_sg_g, q_sg_sg, q_sg_xs, q_sg_id, q_gu_ne, q_gu_eq, q_g_fne, q_g_cpe, q_w_f, q_v_f, q_u_f, q_fn_f, q_cp_f, q_sg_pg, q_sg_hc, q_lt_t, q_lt_f, q_le_t, q_le_f, q_eq_t, q_eq_f, ne_eq, eq_self, Bool.false_eq_true, Bool.true_eq_false, not_true_eq_false, not_false_eq_true, true_and, and_true, false_and, and_false, true_or, or_true, false_or, or_false, if_true, if_false, Int.reduceAdd, Int.reduceMul, Int.reduceSub, Int.reduceNeg, ii, u1, R_98_0, R_98_4, R_98_7, R_98_13, R_98_16, R_98_22, R_98_28, R_98_37, R_98_44, R_98_47, R_98_53, R_98_56, R_98_68, C_98_1, C_98_10, C_98_41, C_98_65]
    · rcases (show w = 0 ∨ w = 1 ∨ w = 2 ∨ w = 3 by omega) with e | e | e | e
      · rw [e, u3, P.2.2.2.2.1]
        exact h4.symm
      · rw [e, u4]
        exact h5.symm
      · rw [e, u5, f1]
        refine Eq.trans ?_ h6'.symm
        by_cases c0 : sc = 0
        · rw [if_pos c0, if_pos c0]
        · have := (f2 0 (by omega) (by omega)).1
          rw [Int.add_zero] at this
          rw [if_neg c0, if_neg c0, this]
      · rw [e, u6, P.2.2.2.2.2]
        exact h7.symm
end CW3
