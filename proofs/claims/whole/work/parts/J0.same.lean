/-! ROWS WITH THE SAME PAGES AND READERS are planned alike -/
noncomputable def SmP (m m' : Int → Int) : Prop := (∀ p w, 0 ≤ p → p < 48 → 0 ≤ w → w < 16 → pg m' p w = pg m p w) ∧ ∀ r, 0 ≤ r → r < 4 → m' (9 + 2 * r) = m (9 + 2 * r) ∧ m' (10 + 2 * r) = m (10 + 2 * r)
theorem qb_c {p q : Prop} [Decidable p] [Decidable q] (h : p ↔ q) : q_b p = q_b q := by
  by_cases hp : p
  · rw [q_bt hp, q_bt (h.mp hp)]
  · rw [q_bf hp, q_bf (fun hq => hp (h.mpr hq))]
theorem cnP_c {P Q : Int → Prop} [DecidablePred P] [DecidablePred Q] (h : ∀ i, P i ↔ Q i) : cnP P = cnP Q := funext fun p => congrArg (fun f => q_S f 0 p) (funext fun i => qb_c (h i))
section SMR
variable {m m' : Int → Int} {b : Int} {T : Option Tr} {Lv Lf : Int → Prop} {sc : Int} {u : Nat → Int → Int32}
theorem row_dk (S : SmP m m') {y : Int} (y0 : 2 ≤ y) (y1 : y < 48) : Row (dk m) (dk m') y := ⟨S.1 y 0 (by omega) y1 (by omega) (by omega), S.1 y 1 (by omega) y1 (by omega) (by omega), rfl, fun k k0 k1 => ⟨S.1 y (4 + k) (by omega) y1 (by omega) (by omega), S.1 y (10 + k) (by omega) y1 (by omega) (by omega)⟩⟩
theorem Sub_tr (S : SmP m m') {N x : Int} {t : Tr} (hN : N ≤ 48) (h : Sub (dk m) N t x) : Sub (dk m') N t x ∧ ∀ y, Wi (dk m') t x y ↔ Wi (dk m) t x y := by
  obtain ⟨a1, a2, a3⟩ := h
  obtain ⟨b1, b2, b3⟩ := Rep_fr (D' := dk m') a1 (fun y hy => by
    have := a3 y hy
    exact row_dk S (by omega) (by omega))
  exact ⟨⟨b1, b3 a2, fun y hy => a3 y ((b2 y).mp hy)⟩, b2⟩
theorem Old_tr (S : SmP m m') : ∀ {t : Tr}, Old (dk m) t → Old (dk m') t := by
  intro t
  induction t using Tr_rc with
  | lf p n a b =>
    try dsimp only [Old_e1, Old_e2] at *
    rintro (h | h)
    · exact Or.inl h
    · exact Or.inr (Sub_tr S (Int.le_refl _) h).1
  | br p n a c ih =>
    try dsimp only [Old_e1, Old_e2] at *
    rintro (⟨h1, h2⟩ | ⟨h1, h2⟩)
    · exact Or.inl ⟨h1, (Sub_tr S (Int.le_refl _) h2).1⟩
    · exact Or.inr ⟨h1, fun k k0 k1 => ih k (h2 k k0 k1)⟩
theorem OldO_tr (S : SmP m m') (h : OldO (dk m) T) : OldO (dk m') T := by
  cases T with
  | none => trivial
  | some t => exact Old_tr S h
theorem hcS (S : SmP m m') {w : Int} (w0 : 0 ≤ w) (w1 : w < 12) : hc m' w = hc m w := hc_pg S.1 w0 w1
theorem st_tr (S : SmP m m') (h48 : hc m 3 ≤ 48) (h : St0 m T Lv) : St0 m' T Lv := by
  obtain ⟨a1, a2, a3⟩ := h
  refine ⟨a1, fun e => by rw [hcS S (by omega) (by omega)]; exact a2 e, fun t e => ?_⟩
  rw [hcS S (by omega) (by omega), hcS S (by omega) (by omega)]
  obtain ⟨c1, c2⟩ := a3 t e
  obtain ⟨d1, d2⟩ := Sub_tr S h48 c1
  exact ⟨d1, fun q => (d2 q).trans (c2 q)⟩
theorem sls_tr (S : SmP m m') (I : Inv m b) (hb : b < 2147483648) : SLs m' = SLs m := by
  obtain ⟨l1, l2, l3, l4, l5⟩ := inv_ls I hb
  have hm := Chn_mem _ _ l1
  refine chx_eq _ _ _ ?_ (by omega)
  rw [hcS S (by omega) (by omega)]
  exact Chn_ext _ _ l1 (fun y hy => ⟨S.1 y 0 (by have := hm y hy; omega) (hm y hy).2.1 (by omega) (by omega), S.1 y 3 (by have := hm y hy; omega) (hm y hy).2.1 (by omega) (by omega)⟩)
theorem lst_tr (S : SmP m m') (I : Inv m b) (hb : b < 2147483648) {p n : Int} : Lst m' (SLs m) p n ↔ Lst m (SLs m) p n := by
  obtain ⟨l1, l2, l3, l4, l5⟩ := inv_ls I hb
  have hm := Chn_mem _ _ l1
  exact Lst_ext (fun y hy => (inv_rows I y (by have := hm y hy; omega) (hm y hy).2.1).2) (fun y hy w w0 w1 _ => S.1 y w (by have := hm y hy; omega) (hm y hy).2.1 w0 w1)
theorem frm_tr (S : SmP m m') (I : Inv m b) (I' : Inv m' b) (hb : b < 2147483648) : FRm m' = FRm m := by
  obtain ⟨l1, l2, l3, l4, l5⟩ := inv_ls I hb
  obtain ⟨k1, k2, k3, k4, k5⟩ := inv_ls I' hb
  have es := sls_tr S I hb
  rw [es] at k3 k4
  funext p
  unfold FRm
  rw [es]
  by_cases h : ∃ n, Lst m (SLs m) p n
  · obtain ⟨n, h⟩ := h
    rw [FRl_yes l3 l4 h, FRl_yes k3 k4 ((lst_tr S I hb).mpr h)]
  · rw [FRl_no (fun n hn => h ⟨n, hn⟩), FRl_no (fun n hn => h ⟨n, (lst_tr S I hb).mp hn⟩)]
theorem lm_tr (S : SmP m m') : LM m' = LM m := by
  unfold LM
  rw [hcS S (by omega) (by omega)]
  refine q_it_c 4 _ (fun k k0 k1 x => ?_)
  rw [(S.2 k k0 (by omega)).1]
theorem dsk_tr (S : SmP m m') (I : Inv m b) (hb : b < 2147483648) (h : Dsk m Lv) : Dsk m' Lv := by
  have h48 := I.1.2.2.2.1
  have es := sls_tr S I hb
  have c3 : hc m' 3 = hc m 3 := hcS S (by omega) (by omega)
  have c0 : hc m' 0 = hc m 0 := hcS S (by omega) (by omega)
  unfold Dsk
  rw [es, c3, c0]
  refine ⟨fun p hp => ?_, fun r r0 r1 hv => ?_⟩
  · obtain ⟨a1, a2, a3, a4⟩ := h.1 p hp
    exact ⟨a1, a2, a3, fun n hn => a4 n ((lst_tr S I hb).mp hn)⟩
  · rw [(S.2 r r0 r1).1] at hv ⊢
    rw [(S.2 r r0 r1).2]
    obtain ⟨a1, a2, Lr, a3, a4⟩ := h.2 r r0 r1 hv
    refine ⟨a1, a2, Lr, TreeD_ext a3 (fun p hp w w0 w1 _ => ?_), fun p hp => ?_⟩
    · have lr : 2 ≤ p ∧ p < hc m 3 := by
        rcases a4 p hp with h' | ⟨n, -, h'⟩
        · exact ⟨(h.1 p h').1, (h.1 p h').2.1⟩
        · obtain ⟨l1, l2, l3, l4, l5⟩ := inv_ls I hb
          exact ⟨(l5 p n h').1, (l5 p n h').2.1⟩
      exact S.1 p w (by omega) (by omega) w0 w1
    · rcases a4 p hp with h' | ⟨n, h1, h'⟩
      · exact Or.inl h'
      · exact Or.inr ⟨n, h1, (lst_tr S I hb).mpr h'⟩
/-- what a plan reads of a row -/
noncomputable def SmQ (m m' : Int → Int) : Prop := FRm m' = FRm m ∧ LM m' = LM m ∧ SLs m' = SLs m ∧ hc m' 3 = hc m 3 ∧ hc m' 0 = hc m 0 ∧ hd m' = hd m
theorem smq (S : SmP m m') (I : Inv m b) (I' : Inv m' b) (hb : b < 2147483648) : SmQ m m' := ⟨frm_tr S I I' hb, lm_tr S, sls_tr S I hb, hcS S (by omega) (by omega), hcS S (by omega) (by omega), hd_pg S.1⟩
theorem us_tr (Q : SmQ m m') : Us m' = Us m := by
  funext p
  unfold Us
  rw [Q.1, Q.2.1]
theorem nu_tr (Q : SmQ m m') : nu m' = nu m := funext fun p => congrArg (fun f => q_S f 0 p) (funext fun i => qb_c (by rw [us_tr Q]))
theorem TK_tr (Q : SmQ m m') {k p : Int} : TK m' k p ↔ TK m k p := by
  unfold TK
  rw [us_tr Q, nu_tr Q, Q.2.2.2.1]
theorem tp_tr (Q : SmQ m m') : tp m' = tp m := by
  funext k
  unfold tp IsT
  rw [us_tr Q, nu_tr Q, Q.2.2.2.1]
theorem cap_tr (Q : SmQ m m') : cap m' = cap m := by
  unfold cap
  rw [nu_tr Q, Q.2.2.2.1]
theorem hgh_tr (Q : SmQ m m') : hgh m' = hgh m := by
  funext k
  unfold hgh
  rw [nu_tr Q, Q.2.2.2.1]
theorem frN_tr (Q : SmQ m m') : frN m' Lf = frN m Lf := by
  funext p
  unfold frN
  rw [Q.1, Q.2.2.1, Q.2.2.2.2.1]
theorem Rw_tr (Q : SmQ m m') {K p : Int} : Rw m' Lf K p ↔ Rw m Lf K p := by
  unfold Rw
  rw [frN_tr Q, TK_tr Q]
theorem ScI_tr (Q : SmQ m m') {kN : Int} (h : ScI m (frN m Lf) kN sc) : ScI m' (frN m' Lf) kN sc := by
  have e : ∀ k, rwl m' (frN m' Lf) k = rwl m (frN m Lf) k := fun k => by
    unfold rwl
    rw [frN_tr Q, nu_tr Q]
  obtain ⟨a1, a2, a3, a4⟩ := h
  exact ⟨a1, a2, fun i i0 i1 => by rw [e]; exact a3 i i0 i1, by rw [e]; exact a4⟩
theorem PlanC_tr (Q : SmQ m m') (P : PlanC m T Lf sc u) : PlanC m' T Lf sc u := by
  obtain ⟨p1, p2, p3, ⟨l1, l2, l3, l4, l5⟩, p5, p6⟩ := P
  have ek : ∀ K, cnP (TK m' K) = cnP (TK m K) := fun K => cnP_c (fun i => TK_tr Q)
  have er : ∀ K, cnP (Rw m' Lf K) = cnP (Rw m Lf K) := fun K => cnP_c (fun i => Rw_tr Q)
  refine ⟨p1, ?_, ?_, ⟨l1, fun p p0 p1 h => ?_, ?_, ?_, fun p p0 p1 h => ?_⟩, ?_, ?_⟩
  · rw [tp_tr Q]
    exact p2
  · rw [tp_tr Q]
    exact p3
  · rw [ek]
    exact l2 p p0 p1 ((TK_tr Q).mp h)
  · rw [Q.2.2.2.2.2]
    exact l3
  · rw [er]
    exact l4
  · rw [er, frN_tr Q]
    exact l5 p p0 p1 ((Rw_tr Q).mp h)
  · rw [Q.2.2.2.2.1]
    exact p5
  · rw [hgh_tr Q]
    exact p6
end SMR
section BMX
variable {d L : Nat} {xs : Nat → Int32} {s : Nat → Int → Int32} {O : Nat → Int64} {c : Bool × Nat × Nat} {m m0 : Int → Int} {b n sc pw pw' : Int} {T : Option Tr} {Lf : Int → Prop} {dr : Bool} {x2 x3 n2 n3 : Nat}
/-- the class plans by one row, the reference by another with the same pages and readers -/
theorem both_makeX {s' : Nat → Int → Int32} (H : RB m0 s 7) (I0 : Inv m0 b) (SP : SmP m0 m) (I : Inv m b) (em : q_g s' 286 = m) (hb : b < 2147483646) (hk : ly_A x2 n2 .int) (hv : ly_A x3 n3 .int) (k2 : n2 < 2147483648) (k3 : n3 < 2147483648) (o2 : ¬ (241 ≤ x2 ∧ x2 ≤ 260)) (o3 : ¬ (241 ≤ x3 ∧ x3 ≤ 260)) (n0 : 0 ≤ n) (n12 : n ≤ 12) (l2 : n ≤ n2) (l3 : n ≤ n3) (hK : ∀ i, 0 ≤ i → i < n → 0 ≤ q_g s x2 i ∧ q_g s x2 i < 100 ∧ 0 ≤ q_g s x3 i ∧ q_g s x3 i ≤ 100) :
    (∃ u, EV (d + 15) 86 0 [.ref 241, .ref 7, .ref x2, .ref x3, .int (q_I (n)), .null] [] (q_h L xs s O c) = some (.inl (some (.int (q_I (0)))), q_h L xs (u) O c) ∧ q_g u 241 10 = 0 ∧ PlnF s u ∧ ∀ (w : Nat → Int → Int32) (d : Nat) (O : Nat → Int64) (c : Bool × Nat × Nat), PlW m n (q_g s x2) (q_g s x3) w → ∃ v, EV (d + 18) 278 0 [.ref 285, .null] [] (q_h L xs (w) O c) = some (.inl none, q_h L xs (v) O c) ∧ q_g v 285 36 = 0 ∧ q_g v 285 39 = 0 ∧ MpF w v) ∨
    (∃ u, EV (d + 15) 86 0 [.ref 241, .ref 7, .ref x2, .ref x3, .int (q_I (n)), .null] [] (q_h L xs s O c) = some (.inl (some (.int (q_I (-1)))), q_h L xs (u) O c) ∧ PlnF s u ∧ ∀ (w : Nat → Int → Int32) (d : Nat) (O : Nat → Int64) (c : Bool × Nat × Nat), PlW m n (q_g s x2) (q_g s x3) w → ∃ v, EV (d + 18) 278 0 [.ref 285, .null] [] (q_h L xs (w) O c) = some (.inl none, q_h L xs (v) O c) ∧ q_g v 285 36 = 1 ∧ q_g v 285 39 = 0 ∧ MpF w v) ∨
    (∃ T Lf sc u, PlO m b T Lf sc ∧ EV (d + 15) 86 0 [.ref 241, .ref 7, .ref x2, .ref x3, .int (q_I (n)), .null] [] (q_h L xs s O c) = some (.inl (some (.int (q_I (cNo T + sc + 1)))), q_h L xs (u) O c) ∧ PlanC m T Lf sc u ∧ PlnF s u ∧ ∀ (w : Nat → Int → Int32) (d : Nat) (O : Nat → Int64) (c : Bool × Nat × Nat), PlW m n (q_g s x2) (q_g s x3) w → ∃ v, EV (d + 18) 278 0 [.ref 285, .null] [] (q_h L xs (w) O c) = some (.inl none, q_h L xs (v) O c) ∧ q_g v 285 36 = 0 ∧ PlanM m T Lf sc v ∧ MpF w v) := by
  obtain ⟨T0, Lv, S, D⟩ := st_ex I0
  have Q := smq SP I0 I (by omega)
  have S' := st_tr SP (by have := I0.1.2.2.2.1; omega) S
  have D' := dsk_tr SP I0 (by omega) D
  obtain ⟨f1, f2, f3, f4, cN', cA⟩ := cc_make (d := d) (L := L) (xs := xs) (s := s) (O := O) (c := c) H I0 hb S D hk hv k2 k3 o2 o3 n0 n12 l2 l3 hK
  have mk : ∀ (w : Nat → Int → Int32) (d : Nat) (O : Nat → Int64) (c : Bool × Nat × Nat), PlW m n (q_g s x2) (q_g s x3) w → _ := fun w d O c hw => mm_plans (d := d) (L := L) (xs := xs) (s := w) (O := O) (c := c) (ks := q_g s x2) (vs := q_g s x3) hw.1 I hb S' D' hw.2.1 n0 n12 (fun i i0 i1 => ⟨(hw.2.2 i i0 i1).1, (hw.2.2 i i0 i1).2, hK i i0 i1⟩) (fun p hp => (f2 p).1.mpr (Or.inr hp))
  have k0 : 0 ≤ cNo (dTs T0 (q_g s x2) (q_g s x3) n.toNat) := by
    cases (dTs T0 (q_g s x2) (q_g s x3) n.toNat) with
    | none => exact Int.le_refl _
    | some t => exact cN_0 t
  have ec := cap_tr Q
  by_cases hA : dAs T0 (q_g s x2) (q_g s x3) n.toNat
  · obtain ⟨sc, Sc⟩ := sc_ex m0 (frN m0 (dLs T0 (q_g s x2) (q_g s x3) n.toNat)) k0
    have Sc' := ScI_tr Q Sc
    obtain ⟨g1, g2⟩ := cA hA sc Sc
    by_cases kc : cNo (dTs T0 (q_g s x2) (q_g s x3) n.toNat) + sc ≤ cap m0
    · obtain ⟨u, u1, u2, u3⟩ := g1 kc
      refine Or.inr (Or.inr ⟨_, _, sc, u, ⟨Lv, D', f1, f2, OldO_tr SP f3, f4, Sc', by rw [ec]; exact kc, k0, ?_⟩, u1, PlanC_tr Q u2, u3, fun w d O c hw => ?_⟩)
      · obtain ⟨v, v1, v2, v3, v4⟩ := ((mk (fun k z => if k = 285 ∧ z = 19 then q_I n else if k = 292 then q_I (q_g s x2 z) else if k = 293 then q_I (q_g s x3 z) else s' k z) 0 O c ⟨by
          rw [← em]
          funext z
          show (if (286 : Nat) = 285 ∧ z = 19 then q_I n else if (286 : Nat) = 292 then q_I (q_g s x2 z) else if (286 : Nat) = 293 then q_I (q_g s x3 z) else s' 286 z).toInt = _
          rw [if_neg (by omega), if_neg (by omega), if_neg (by omega)]
          rfl, by
          show (if (285 : Nat) = 285 ∧ (19 : Int) = 19 then q_I n else _).toInt = n
          rw [if_pos ⟨rfl, rfl⟩]
          exact q_sg_id (by omega) (by omega), fun i i0 i1 => ⟨by
          show (if (292 : Nat) = 285 ∧ i = 19 then q_I n else if (292 : Nat) = 292 then q_I (q_g s x2 i) else _).toInt = _
          rw [if_neg (by omega), if_pos rfl]
          exact q_sg_g _ _ _, by
          show (if (293 : Nat) = 285 ∧ i = 19 then q_I n else if (293 : Nat) = 292 then q_I (q_g s x2 i) else if (293 : Nat) = 293 then q_I (q_g s x3 i) else _).toInt = _
          rw [if_neg (by omega), if_neg (by omega), if_pos rfl]
          exact q_sg_g _ _ _⟩⟩).2 hA sc Sc').1 (by rw [ec]; exact kc)
        exact ⟨_, v3.2.2.2⟩
      · exact ((mk w d O c hw).2 hA sc Sc').1 (by rw [ec]; exact kc)
    · obtain ⟨u, u1, u2⟩ := g2 (by omega)
      exact Or.inr (Or.inl ⟨u, u1, u2, fun w d O c hw => ((mk w d O c hw).2 hA sc Sc').2 (by rw [ec]; omega)⟩)
  · obtain ⟨u, u1, u2, u3⟩ := cN' hA
    exact Or.inl ⟨u, u1, u2, u3, fun w d O c hw => (mk w d O c hw).1 hA⟩
end BMX
