/-! changes beside the pages -/
section UP
variable {m m' : Int → Int} {b : Int}
theorem hd_pg (hp : ∀ p w, 0 ≤ p → p < 48 → 0 ≤ w → w < 16 → pg m' p w = pg m p w) : hd m' = hd m := by
  unfold hd
  have e0 : m' 281 = m 281 := hp 0 0 (by omega) (by omega) (by omega) (by omega)
  have e1 : m' 297 = m 297 := hp 1 0 (by omega) (by omega) (by omega) (by omega)
  have e2 : m' 285 = m 285 := hp 0 4 (by omega) (by omega) (by omega) (by omega)
  have e3 : m' 301 = m 301 := hp 1 4 (by omega) (by omega) (by omega) (by omega)
  rw [e0, e1, e2, e3]
theorem hc_pg (hp : ∀ p w, 0 ≤ p → p < 48 → 0 ≤ w → w < 16 → pg m' p w = pg m p w) {w : Int} (w0 : 0 ≤ w) (w1 : w < 12) : hc m' w = hc m w := by
  have := hd_01 m
  unfold hc
  rw [hd_pg hp, hp _ _ (by omega) (by omega) (by omega) (by omega)]
theorem Inv_upd (I : Inv m b) (hp : ∀ p w, 0 ≤ p → p < 48 → 0 ≤ w → w < 16 → pg m' p w = pg m p w) (hrd : ∀ r, 0 ≤ r → r < 4 → m' (9 + 2 * r) ≠ -1 → (m (9 + 2 * r) ≠ -1 ∧ m' (9 + 2 * r) = m (9 + 2 * r) ∧ m' (10 + 2 * r) = m (10 + 2 * r)) ∨ (m' (9 + 2 * r) = hc m 0 ∧ m' (10 + 2 * r) = hc m 1)) (hr1 : ∀ r, 0 ≤ r → r < 4 → -1 ≤ m' (9 + 2 * r)) (hch : 0 ≤ m' 8 ∧ m' 8 ≤ 12 ∧ ∀ k, 0 ≤ k → k < m' 8 → 0 ≤ m' (17 + 2 * k) ∧ m' (17 + 2 * k) < 100 ∧ 0 ≤ m' (18 + 2 * k) ∧ m' (18 + 2 * k) ≤ 100) (hs : 0 ≤ m' 0 ∧ m' 0 ≤ 12 ∧ 0 ≤ m' 3 ∧ m' 3 ≤ 100 ∧ 0 ≤ m' 4 ∧ m' 4 ≤ 99999 ∧ 0 ≤ m' 5 ∧ m' 5 ≤ 9999 ∧ 0 ≤ m' 6 ∧ m' 6 ≤ 60) : Inv m' b := by
  obtain ⟨⟨⟨a1, a2, a3, a4, a5⟩, P, Q, ⟨h0, h1, h2, h48⟩, Lv, sl, T, Ld, Dj, Rd⟩, _, _, Rr⟩ := I
  have hd1 := hd_01 m
  have hm := Chn_mem sl _ Ld.1
  have hr : ∀ y, y ∈ sl → 2 ≤ y ∧ y < 48 ∧ pg m y 1 ≤ 6 := fun y hy => by
    have := hm y hy
    have := P y this.1 this.2.1
    omega
  have ey : ∀ y, y ∈ sl → ∀ w, 0 ≤ w → w < 16 → w ≠ 2 → pg m' y w = pg m y w := fun y hy w w0 w1 _ => by
    have := hr y hy
    exact hp _ _ (by omega) (by omega) w0 w1
  have le : ∀ p n, Lst m' sl p n ↔ Lst m sl p n := fun p n => Lst_ext (fun y hy => (hr y hy).2.2) ey
  have te : ∀ {Lv : Int → Prop} {r : Int}, TreeD m (hc m 3) Lv r → TreeD m' (hc m 3) Lv r := fun T => TreeD_ext T (fun p hp' w w0 w1 _ => by
    rcases T with ⟨_, hh⟩ | ⟨n, ht, hb, hn, T, _⟩
    · exact absurd hp' (hh p)
    · have := T.2.1 p hp'
      exact hp _ _ (by omega) (by omega) w0 w1)
  refine ⟨⟨⟨?_, ?_, ?_, ?_, ?_⟩, fun p p0 p1 => ?_, fun p p0 p1 => ?_, ?_, Lv, sl, ?_, ⟨?_, Ld.2.1, ?_, ?_, ?_⟩, ?_, ?_⟩, hch, hs, hr1⟩
  · rw [hp _ _ (by omega) (by omega) (by omega) (by omega)]
    exact a1
  · rw [hp _ _ (by omega) (by omega) (by omega) (by omega)]
    exact a2
  · rw [hd_pg hp, hp _ _ (by omega) (by omega) (by omega) (by omega)]
    exact a3
  · rw [hp _ _ (by omega) (by omega) (by omega) (by omega)]
    exact a4
  · rw [hp _ _ (by omega) (by omega) (by omega) (by omega)]
    exact a5
  · rw [hp p 0 (by omega) (by omega) (by omega) (by omega), hp p 1 (by omega) (by omega) (by omega) (by omega)]
    exact P p p0 p1
  · rw [hp p 0 (by omega) (by omega) (by omega) (by omega), hp p 2 (by omega) (by omega) (by omega) (by omega), hp p 3 (by omega) (by omega) (by omega) (by omega)]
    exact Q p p0 p1
  · rw [hc_pg hp (by omega) (by omega), hc_pg hp (by omega) (by omega)]
    exact ⟨h0, h1, h2, h48⟩
  · rw [hc_pg hp (by omega) (by omega), hc_pg hp (by omega) (by omega)]
    exact te T
  · rw [hc_pg hp (by omega) (by omega)]
    exact Chn_ext sl _ Ld.1 (fun y hy => ⟨ey y hy 0 (by omega) (by omega) (by omega), ey y hy 3 (by omega) (by omega) (by omega)⟩)
  · rw [hc_pg hp (by omega) (by omega)]
    exact Ld.2.2.1
  · rw [hc_pg hp (by omega) (by omega), hc_pg hp (by omega) (by omega)]
    exact fun p n x => Ld.2.2.2.1 p n ((le p n).mp x)
  · intro y y' k k' hy hy' k0 k1 l0 l1 ee
    have r1 := hr y hy
    have r2 := hr y' hy'
    rw [ey y hy 1 (by omega) (by omega) (by omega)] at k1
    rw [ey y' hy' 1 (by omega) (by omega) (by omega)] at l1
    rw [ey y hy (4 + k) (by omega) (by omega) (by omega), ey y' hy' (4 + k') (by omega) (by omega) (by omega)] at ee
    exact Ld.2.2.2.2 y y' k k' hy hy' k0 k1 l0 l1 ee
  · exact fun p hp => ⟨(Dj p hp).1, fun n x => (Dj p hp).2 n ((le p n).mp x)⟩
  · intro r r0 r1 hv
    rw [hc_pg hp (by omega) (by omega), hc_pg hp (by omega) (by omega)]
    rcases hrd r r0 r1 hv with ⟨e0, e1, e2⟩ | ⟨e1, e2⟩
    · rw [e1, e2]
      obtain ⟨b1, b2, Lr, Tr, Mr⟩ := Rd r r0 r1 e0
      exact ⟨b1, b2, Lr, te Tr, fun p hp => (Mr p hp).imp id (fun ⟨n, n1, n2⟩ => ⟨n, n1, (le p n).mpr n2⟩)⟩
    · rw [e1, e2]
      exact ⟨h0, Int.le_refl _, Lv, te T, fun p hp => Or.inl hp⟩
theorem RB_upd {s u : Nat → Int → Int32} (H : RB m s 7) (I : Inv m b) (hp : ∀ p w, 0 ≤ p → p < 48 → 0 ≤ w → w < 16 → pg m' p w = pg m p w) (hk : ∀ k, 9 ≤ k → k ≤ 15 → q_g u k = q_g s k) (h3 : ∀ r, 0 ≤ r → r < 4 → q_g u 16 r = m' (9 + 2 * r) ∧ (m' (9 + 2 * r) ≠ -1 → q_g u 17 r = m' (10 + 2 * r)) ∧ (m' (9 + 2 * r) = -1 → q_g u 17 r = -1)) (h4 : q_g u 7 5 = m' 8 ∧ ∀ k, 0 ≤ k → k < m' 8 → q_g u 18 k = m' (17 + 2 * k) ∧ q_g u 19 k = m' (18 + 2 * k)) (h5 : q_g u 7 6 = m' 3 ∧ q_g u 7 7 = m' 4 ∧ q_g u 7 8 = m' 5 ∧ q_g u 7 9 = m' 7 ∧ q_g u 7 10 = m' 0 ∧ q_g u 7 12 = m' 6) (h6 : (0 ≤ q_g u 7 13 ∧ q_g u 7 13 < 60) ∧ ∀ a w, 0 ≤ a → a < m' 6 → 0 ≤ w → w < 4 → q_g u 20 (((q_g u 7 13 - 1 - a) % 60) * 4 + w) = m' (41 + 4 * a + w)) : RB m' u 7 := by
  have P := @inv_page b m I
  obtain ⟨r1, r2, r3, r4, r5, r6, r7⟩ := H
  refine ⟨fun p p0 p1 => ?_, fun p p0 p1 hh w w0 w1 => ?_, h3, h4, h5, h6.1, h6.2⟩
  · have pr := P p0 p1
    rw [hk (7 + 2) (by omega) (by omega), hk (7 + 3) (by omega) (by omega), hk (7 + 4) (by omega) (by omega), hk (7 + 5) (by omega) (by omega), hk (7 + 6) (by omega) (by omega), hk (7 + 7) (by omega) (by omega), hp p 0 p0 p1 (by omega) (by omega), hp p 1 p0 p1 (by omega) (by omega), hp p 2 p0 p1 (by omega) (by omega), hp p 3 p0 p1 (by omega) (by omega)]
    obtain ⟨x1, x2, x3, x4, x5⟩ := r1 p p0 p1
    refine ⟨x1, x2, x3, x4, fun k k0 k1 => ?_⟩
    rw [hp p _ p0 p1 (by omega) (by omega), hp p (10 + k) p0 p1 (by omega) (by omega)]
    exact x5 k k0 k1
  · rw [hp p _ p0 (by omega) (by omega) (by omega)] at hh ⊢
    rw [hk (7 + 8) (by omega) (by omega)]
    exact r2 p p0 p1 hh w w0 w1
end UP
section AO
variable {d L : Nat} {xs : Nat → Int32} {s : Nat → Int → Int32} {O : Nat → Int64} {c : Bool × Nat × Nat} {b : Int}
theorem q_pg_u {k : Nat} {z v p w : Int} (h : ¬ (k = 286 ∧ z = 281 + 16 * p + w)) {s : Nat → Int → Int32} : pg (q_g (q_u s k z v) 286) p w = pg (q_g s 286) p w := q_gu_ne (fun e => h ⟨e.1.symm, e.2.symm⟩)
theorem cc_rem (B : Big b s) : EV (d + 3) 65 0 [.ref 71, .ref 7] [] (q_h L xs s O c) = some (.inl none, q_h L xs (rmC s) O c) := cc_remember B.2.2.2.1.2.1 B.2.2.2.1.2.2.1 B.2.2.2.1.2.2.2.1 B.2.2.2.1.2.2.2.2.1
theorem act_f (B : Big b s) {k : Nat} (h1 : k ≠ 71) (h2 : k < 73 ∨ 240 < k) : q_g (rmC s) k = q_g s k := rmC_f h1 h2 B.2.2.2.1.2.2.2.1 B.2.2.2.1.2.2.2.2.1
theorem act_mm (B : Big b s) {s2 : Nat → Int → Int32} (h2 : ∀ k z, relz k z → ¬ (7 ≤ k ∧ k ≤ 20) → s2 k z = rmC s k z) : ∃ t, EV (d) 303 0 [.ref 285, .null] [] (q_h L xs (q_u s2 285 0 0) O c) = some (.inl none, q_h L xs (t) O c) ∧ (∀ z, q_g t 286 z = q_g s 286 z) ∧ (∀ k z, k ≠ 289 → k ≠ 285 → q_g t k z = q_g s2 k z) ∧ q_g t 285 0 = 0 ∧ ∀ (u : Nat → Int → Int32) (b' : Int), b ≤ b' → (∀ k z, relz k z → k ≠ 286 → u k z = t k z) → (∀ z, z = 1 ∨ z = 2 ∨ 1049 ≤ z → q_g u 286 z = q_g s 286 z) → RB (q_g u 286) u 7 → Inv (q_g u 286) b' → Big b' u := by
  have Hi := B.2.2.2.1
  have hr : 73 ≤ q_r72 (q_g s 71 2) ∧ q_r72 (q_g s 71 2) + 13 ≤ 240 := by unfold q_r72; omega
  have hA : q_g (q_u s2 285 0 0) 285 6 = q_g s 71 1 := by
    rw [q_gu_ne (by omega)]
    show (s2 285 6).toInt = _
    rw [h2 285 6 (by unfold relz relc; omega) (by omega)]
    show q_g (rmC s) 285 6 = _
    rw [act_f B (by omega) (by omega), Hi.1]
  obtain ⟨t, m1, m2, m3, m4, m5⟩ := mm_remembers (d := d) (L := L) (xs := xs) (O := O) (c := c) hA Hi.2.1 Hi.2.2.1
  refine ⟨t, m1, fun z => ?_, fun k z k1 k2 => ?_, ?_, fun u b' hb h3 h4 h5 h6 => ?_⟩
  · show (t 286 z).toInt = _
    rw [m3 286 z (by omega) (by omega), q_u_n (by omega), h2 286 z (by unfold relz relc; omega) (by omega)]
    show q_g (rmC s) 286 z = _
    rw [act_f B (by omega) (by omega)]
  · show (t k z).toInt = _
    rw [m3 k z (by omega) (by omega), q_u_n (by omega)]
    rfl
  · show (t 285 0).toInt = _
    rw [m3 285 0 (by omega) (by omega)]
    show q_g (q_u s2 285 0 0) 285 0 = 0
    rw [q_gu_eq rfl]
    rfl
  · refine Big_act B hb (s2 := q_u s2 285 0 0) (t := t) (fun k z hz hk => ?_) m2 m3 m4 m5 h3 h4 h5 h6
    rw [q_u_n (by unfold relz relc at hz; omega), h2 k z hz hk]
theorem op_risk (B : Big b s) {n : Int} (v1 : -2147483648 ≤ n) (v2 : n < 2147483648) : Op (Big b) (fun h => EV (d + 40) 15 0 [.ref 1, .int (q_I (n)), .ref 312, .null] [] h) (fun h => EV (d + 40) 313 0 [.ref 285, .int (q_I (n)), .null] [] h) L xs s O c := by
  have H := B.1.1
  have I := B.1.2.1
  by_cases h1 : 0 ≤ n ∧ n ≤ 100
  · have f7 : q_g (rmC s) 7 = q_g s 7 := act_f B (by omega) (by omega)
    have er := cc_rem (d := d + 35) (L := L) (xs := xs) (O := O) (c := c) B
    obtain ⟨t, m1, m2, m3, m4, m5⟩ := act_mm (d := d + 39) (L := L) (xs := xs) (O := vp_updL O 0 (q_I (q_g s 286 3)).toInt64) (c := c) B (s2 := q_u (rmC s) 7 6 n) (fun k z hz hk => q_u_n (by omega))
    have e3 := rb_risk H
    have uk : ∀ k z, 7 ≤ k → k ≤ 20 → ¬ (k = 7 ∧ z = 6) → q_g (q_u t 286 3 n) k z = q_g s k z := fun k z a1 a2 a3 => by
      rw [q_gu_ne (by omega), m3 k z (by omega) (by omega), q_gu_ne (by omega), act_f B (by omega) (by omega)]
    have u6 : q_g (q_u t 286 3 n) 7 6 = n := by
      rw [q_gu_ne (by omega), m3 7 6 (by omega) (by omega), q_gu_eq rfl, q_sg_id (by omega) (by omega)]
    refine ⟨0, q_g s 286 3, q_u (rmC s) 7 6 n, q_u t 286 3 n, vp_updL O 0 (q_I (q_g s 286 3)).toInt64, c, ?_, ?_, by omega, by omega, ?_, fun _ => rfl, Or.inl rfl, ?_⟩
    · simp (disch := first | omega | exact q_b_01 _) only [↓reduceIte, q_bk0, q_bk1, q_bk2, q_sg_b, q_b_0, q_b_n0, q_b_1, q_b_n1, q_b_T, q_b_F, q_sg_g, q_sg_sg, q_sg_xs, q_sg_id, q_gu_ne, q_gu_eq, q_g_fne, q_g_cpe, q_w_f, q_v_f, q_u_f, q_fn_f, q_cp_f, q_sg_pg, q_sg_hc, q_lt_t, q_lt_f, q_le_t, q_le_f, q_eq_t, q_eq_f, ne_eq, eq_self, Bool.false_eq_true, Bool.true_eq_false, not_true_eq_false, not_false_eq_true, true_and, and_true, false_and, and_false, true_or, or_true, false_or, or_false, if_true, if_false, Int.reduceAdd, Int.reduceMul, Int.reduceSub, Int.reduceNeg, f7, e3, R_15_0, R_15_7, R_15_9, R_15_13, C_15_4, R_154_0, R_154_4, R_154_10, R_154_18, R_154_29, R_154_45, C_154_26, er, q_lst, K_15_0]
    · simp (disch := first | omega | exact q_b_01 _) only [↓reduceIte, q_bk0, q_bk1, q_bk2, q_sg_b, q_b_0, q_b_n0, q_b_1, q_b_n1, q_b_T, q_b_F, q_sg_g, q_sg_sg, q_sg_xs, q_sg_id, q_gu_ne, q_gu_eq, q_g_fne, q_g_cpe, q_w_f, q_v_f, q_u_f, q_fn_f, q_cp_f, q_sg_pg, q_sg_hc, q_lt_t, q_lt_f, q_le_t, q_le_f, q_eq_t, q_eq_f, ne_eq, eq_self, Bool.false_eq_true, Bool.true_eq_false, not_true_eq_false, not_false_eq_true, true_and, and_true, false_and, and_false, true_or, or_true, false_or, or_false, if_true, if_false, Int.reduceAdd, Int.reduceMul, Int.reduceSub, Int.reduceNeg, m2, R_313_0, R_313_8, R_313_11, R_313_15, R_313_16, R_313_19, R_313_26, R_313_28, R_313_32, R_313_38, R_313_46, C_313_5, C_313_29, mm_isIn, m1]
    · rw [q_gu_ne (by omega), m4]
    · have ez : ∀ z, z ≠ 3 → q_g (q_u t 286 3 n) 286 z = q_g s 286 z := fun z hz => by rw [q_gu_ne (by omega), m2]
      have e3' : q_g (q_u t 286 3 n) 286 3 = n := by rw [q_gu_eq rfl, q_sg_id (by omega) (by omega)]
      have hp : ∀ p w, 0 ≤ p → p < 48 → 0 ≤ w → w < 16 → pg (q_g (q_u t 286 3 n) 286) p w = pg (q_g s 286) p w := fun p w p0 p1 w0 w1 => ez _ (by omega)
      refine m5 _ b (Int.le_refl _) (fun k z hz hk => q_u_n (by omega)) (fun z hz => ez z (by omega)) ?_ ?_
      · refine RB_upd H I hp (fun k a1 a2 => funext fun z => uk k z (by omega) (by omega) (by omega)) (fun r r0 r1 => ?_) ?_ ?_ ?_
        · rw [uk 16 r (by omega) (by omega) (by omega), uk 17 r (by omega) (by omega) (by omega), ez _ (by omega), ez _ (by omega)]
          exact H.2.2.1 r r0 r1
        · rw [uk 7 5 (by omega) (by omega) (by omega), ez 8 (by omega)]
          refine ⟨H.2.2.2.1.1, fun k k0 k1 => ?_⟩
          rw [uk 18 k (by omega) (by omega) (by omega), uk 19 k (by omega) (by omega) (by omega), ez _ (by omega), ez _ (by omega)]
          exact H.2.2.2.1.2 k k0 k1
        · rw [u6, e3', uk 7 7 (by omega) (by omega) (by omega), uk 7 8 (by omega) (by omega) (by omega), uk 7 9 (by omega) (by omega) (by omega), uk 7 10 (by omega) (by omega) (by omega), uk 7 12 (by omega) (by omega) (by omega), ez 4 (by omega), ez 5 (by omega), ez 7 (by omega), ez 0 (by omega), ez 6 (by omega)]
          exact ⟨rfl, H.2.2.2.2.1.2⟩
        · rw [uk 7 13 (by omega) (by omega) (by omega), ez 6 (by omega)]
          refine ⟨H.2.2.2.2.2.1, fun a w a0 a1 w0 w1 => ?_⟩
          rw [uk 20 _ (by omega) (by omega) (by omega), ez _ (by omega)]
          exact H.2.2.2.2.2.2 a w a0 a1 w0 w1
      · refine Inv_upd I hp (fun r r0 r1 hv => Or.inl ?_) (fun r r0 r1 => ?_) ?_ ?_
        · rw [ez _ (by omega)] at hv
          exact ⟨hv, ez _ (by omega), ez _ (by omega)⟩
        · rw [ez _ (by omega)]
          exact I.2.2.2 r r0 r1
        · rw [ez 8 (by omega)]
          refine ⟨I.2.1.1, I.2.1.2.1, fun k k0 k1 => ?_⟩
          rw [ez _ (by omega), ez _ (by omega)]
          exact I.2.1.2.2 k k0 k1
        · rw [ez 0 (by omega), e3', ez 4 (by omega), ez 5 (by omega), ez 6 (by omega)]
          have := I.2.2.1
          omega
  · refine ⟨1, 0, s, q_u s 285 0 1, O, q_th c, ?_, ?_, by omega, by omega, by simp (disch := first | omega | exact q_b_01 _) only [↓reduceIte, q_bk0, q_bk1, q_bk2, q_sg_b, q_b_0, q_b_n0, q_b_1, q_b_n1, q_b_T, q_b_F, q_sg_g, q_sg_sg, q_sg_xs, q_sg_id, q_gu_ne, q_gu_eq, q_g_fne, q_g_cpe, q_w_f, q_v_f, q_u_f, q_fn_f, q_cp_f, q_sg_pg, q_sg_hc, q_lt_t, q_lt_f, q_le_t, q_le_f, q_eq_t, q_eq_f, ne_eq, eq_self, Bool.false_eq_true, Bool.true_eq_false, not_true_eq_false, not_false_eq_true, true_and, and_true, false_and, and_false, true_or, or_true, false_or, or_false, if_true, if_false, Int.reduceAdd, Int.reduceMul, Int.reduceSub, Int.reduceNeg], by omega, Or.inr rfl, Big_sm B (Sm_u Sm_rfl (by unfold relz relc; omega))⟩
    · by_cases h2 : n < 0
      · simp (disch := first | omega | exact q_b_01 _) only [↓reduceIte, q_bk0, q_bk1, q_bk2, q_sg_b, q_b_0, q_b_n0, q_b_1, q_b_n1, q_b_T, q_b_F, q_sg_g, q_sg_sg, q_sg_xs, q_sg_id, q_gu_ne, q_gu_eq, q_g_fne, q_g_cpe, q_w_f, q_v_f, q_u_f, q_fn_f, q_cp_f, q_sg_pg, q_sg_hc, q_lt_t, q_lt_f, q_le_t, q_le_f, q_eq_t, q_eq_f, ne_eq, eq_self, Bool.false_eq_true, Bool.true_eq_false, not_true_eq_false, not_false_eq_true, true_and, and_true, false_and, and_false, true_or, or_true, false_or, or_false, if_true, if_false, Int.reduceAdd, Int.reduceMul, Int.reduceSub, Int.reduceNeg, R_15_0, R_15_7, R_15_9, R_15_13, C_15_4, R_154_0, R_154_4, R_154_10, R_154_18, R_154_29, R_154_45, C_154_26, K_15_0]
      · simp (disch := first | omega | exact q_b_01 _) only [↓reduceIte, q_bk0, q_bk1, q_bk2, q_sg_b, q_b_0, q_b_n0, q_b_1, q_b_n1, q_b_T, q_b_F, q_sg_g, q_sg_sg, q_sg_xs, q_sg_id, q_gu_ne, q_gu_eq, q_g_fne, q_g_cpe, q_w_f, q_v_f, q_u_f, q_fn_f, q_cp_f, q_sg_pg, q_sg_hc, q_lt_t, q_lt_f, q_le_t, q_le_f, q_eq_t, q_eq_f, ne_eq, eq_self, Bool.false_eq_true, Bool.true_eq_false, not_true_eq_false, not_false_eq_true, true_and, and_true, false_and, and_false, true_or, or_true, false_or, or_false, if_true, if_false, Int.reduceAdd, Int.reduceMul, Int.reduceSub, Int.reduceNeg, R_15_0, R_15_7, R_15_9, R_15_13, C_15_4, R_154_0, R_154_4, R_154_10, R_154_18, R_154_29, R_154_45, C_154_26, K_15_0]
    · simp (disch := first | omega | exact q_b_01 _) only [↓reduceIte, q_bk0, q_bk1, q_bk2, q_sg_b, q_b_0, q_b_n0, q_b_1, q_b_n1, q_b_T, q_b_F, q_sg_g, q_sg_sg, q_sg_xs, q_sg_id, q_gu_ne, q_gu_eq, q_g_fne, q_g_cpe, q_w_f, q_v_f, q_u_f, q_fn_f, q_cp_f, q_sg_pg, q_sg_hc, q_lt_t, q_lt_f, q_le_t, q_le_f, q_eq_t, q_eq_f, ne_eq, eq_self, Bool.false_eq_true, Bool.true_eq_false, not_true_eq_false, not_false_eq_true, true_and, and_true, false_and, and_false, true_or, or_true, false_or, or_false, if_true, if_false, Int.reduceAdd, Int.reduceMul, Int.reduceSub, Int.reduceNeg, h1, R_313_0, R_313_8, R_313_11, R_313_15, R_313_16, R_313_19, R_313_26, R_313_28, R_313_32, R_313_38, R_313_46, C_313_5, C_313_29, mm_isIn]
end AO
