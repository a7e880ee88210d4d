/-! A PLAN MADE AND CARRIED OUT, of both, in one -/
/-- what is known of a plan that can be carried out -/
noncomputable def PlO (m : Int → Int) (b : Int) (T : Option Tr) (Lf : Int → Prop) (sc : Int) : Prop :=
  ∃ Lv, Dsk m Lv ∧ PTo T ∧ LfP Lv T Lf ∧ OldO (dk m) T ∧ DPo T ∧ ScI m (frN m Lf) (cNo T) sc ∧ cNo T + sc ≤ cap m ∧ 0 ≤ cNo T ∧ ∃ pl, PlI m T Lf sc pl
noncomputable def PlW (m : Int → Int) (n : Int) (ks vs : Int → Int) (w : Nat → Int → Int32) : Prop := q_g w 286 = m ∧ q_g w 285 19 = n ∧ ∀ i, 0 ≤ i → i < n → q_g w 292 i = ks i ∧ q_g w 293 i = vs i
section BT2
variable {d L : Nat} {xs : Nat → Int32} {s : Nat → Int → Int32} {O : Nat → Int64} {c : Bool × Nat × Nat} {m : Int → Int} {b n sc pw pw' : Int} {T : Option Tr} {Lf : Int → Prop} {dr : Bool} {x2 x3 n2 n3 : Nat}
theorem both_make {s' : Nat → Int → Int32} (H : RB m s 7) (I : Inv m b) (em : q_g s' 286 = m) (hb : b < 2147483646) (hk : ly_A x2 n2 .int) (hv : ly_A x3 n3 .int) (k2 : n2 < 2147483648) (k3 : n3 < 2147483648) (o2 : ¬ (241 ≤ x2 ∧ x2 ≤ 260)) (o3 : ¬ (241 ≤ x3 ∧ x3 ≤ 260)) (n0 : 0 ≤ n) (n12 : n ≤ 12) (l2 : n ≤ n2) (l3 : n ≤ n3) (hK : ∀ i, 0 ≤ i → i < n → 0 ≤ q_g s x2 i ∧ q_g s x2 i < 100 ∧ 0 ≤ q_g s x3 i ∧ q_g s x3 i ≤ 100) :
    (∃ u, EV (d + 15) 86 0 [.ref 241, .ref 7, .ref x2, .ref x3, .int (q_I (n)), .null] [] (q_h L xs s O c) = some (.inl (some (.int (q_I (0)))), q_h L xs (u) O c) ∧ q_g u 241 10 = 0 ∧ PlnF s u ∧ ∀ (w : Nat → Int → Int32) (d : Nat) (O : Nat → Int64) (c : Bool × Nat × Nat), PlW m n (q_g s x2) (q_g s x3) w → ∃ v, EV (d + 18) 278 0 [.ref 285, .null] [] (q_h L xs (w) O c) = some (.inl none, q_h L xs (v) O c) ∧ q_g v 285 36 = 0 ∧ q_g v 285 39 = 0 ∧ MpF w v) ∨
    (∃ u, EV (d + 15) 86 0 [.ref 241, .ref 7, .ref x2, .ref x3, .int (q_I (n)), .null] [] (q_h L xs s O c) = some (.inl (some (.int (q_I (-1)))), q_h L xs (u) O c) ∧ PlnF s u ∧ ∀ (w : Nat → Int → Int32) (d : Nat) (O : Nat → Int64) (c : Bool × Nat × Nat), PlW m n (q_g s x2) (q_g s x3) w → ∃ v, EV (d + 18) 278 0 [.ref 285, .null] [] (q_h L xs (w) O c) = some (.inl none, q_h L xs (v) O c) ∧ q_g v 285 36 = 1 ∧ q_g v 285 39 = 0 ∧ MpF w v) ∨
    (∃ T Lf sc u, PlO m b T Lf sc ∧ EV (d + 15) 86 0 [.ref 241, .ref 7, .ref x2, .ref x3, .int (q_I (n)), .null] [] (q_h L xs s O c) = some (.inl (some (.int (q_I (cNo T + sc + 1)))), q_h L xs (u) O c) ∧ PlanC m T Lf sc u ∧ PlnF s u ∧ ∀ (w : Nat → Int → Int32) (d : Nat) (O : Nat → Int64) (c : Bool × Nat × Nat), PlW m n (q_g s x2) (q_g s x3) w → ∃ v, EV (d + 18) 278 0 [.ref 285, .null] [] (q_h L xs (w) O c) = some (.inl none, q_h L xs (v) O c) ∧ q_g v 285 36 = 0 ∧ PlanM m T Lf sc v ∧ MpF w v) := by
  obtain ⟨T0, Lv, S, D⟩ := st_ex I
  obtain ⟨f1, f2, f3, f4, cN', cA⟩ := cc_make (d := d) (L := L) (xs := xs) (s := s) (O := O) (c := c) H I hb S D hk hv k2 k3 o2 o3 n0 n12 l2 l3 hK
  have mk : ∀ (w : Nat → Int → Int32) (d : Nat) (O : Nat → Int64) (c : Bool × Nat × Nat), PlW m n (q_g s x2) (q_g s x3) w → _ := fun w d O c hw => mm_plans (d := d) (L := L) (xs := xs) (s := w) (O := O) (c := c) (ks := q_g s x2) (vs := q_g s x3) hw.1 I hb S D hw.2.1 n0 n12 (fun i i0 i1 => ⟨(hw.2.2 i i0 i1).1, (hw.2.2 i i0 i1).2, hK i i0 i1⟩) (fun p hp => (f2 p).1.mpr (Or.inr hp))
  have k0 : 0 ≤ cNo (dTs T0 (q_g s x2) (q_g s x3) n.toNat) := by
    cases (dTs T0 (q_g s x2) (q_g s x3) n.toNat) with
    | none => exact Int.le_refl _
    | some t => exact cN_0 t
  by_cases hA : dAs T0 (q_g s x2) (q_g s x3) n.toNat
  · obtain ⟨sc, Sc⟩ := sc_ex m (frN m (dLs T0 (q_g s x2) (q_g s x3) n.toNat)) k0
    obtain ⟨g1, g2⟩ := cA hA sc Sc
    by_cases kc : cNo (dTs T0 (q_g s x2) (q_g s x3) n.toNat) + sc ≤ cap m
    · obtain ⟨u, u1, u2, u3⟩ := g1 kc
      refine Or.inr (Or.inr ⟨_, _, sc, u, ⟨Lv, D, f1, f2, f3, f4, Sc, kc, k0, ?_⟩, u1, u2, u3, fun w d O c hw => ?_⟩)
      · obtain ⟨v, v1, v2, v3, v4⟩ := ((mk (fun k z => if k = 285 ∧ z = 19 then q_I n else if k = 292 then q_I (q_g s x2 z) else if k = 293 then q_I (q_g s x3 z) else s' k z) 0 O c ⟨by
          rw [← em]
          funext z
          show (if (286 : Nat) = 285 ∧ z = 19 then q_I n else if (286 : Nat) = 292 then q_I (q_g s x2 z) else if (286 : Nat) = 293 then q_I (q_g s x3 z) else s' 286 z).toInt = _
          rw [if_neg (by omega), if_neg (by omega), if_neg (by omega)]
          rfl, by
          show (if (285 : Nat) = 285 ∧ (19 : Int) = 19 then q_I n else _).toInt = n
          rw [if_pos ⟨rfl, rfl⟩]
          exact q_sg_id (by omega) (by omega), fun i i0 i1 => ⟨by
          show (if (292 : Nat) = 285 ∧ i = 19 then q_I n else if (292 : Nat) = 292 then q_I (q_g s x2 i) else _).toInt = _
          rw [if_neg (by omega), if_pos rfl]
          exact q_sg_g _ _ _, by
          show (if (293 : Nat) = 285 ∧ i = 19 then q_I n else if (293 : Nat) = 292 then q_I (q_g s x2 i) else if (293 : Nat) = 293 then q_I (q_g s x3 i) else _).toInt = _
          rw [if_neg (by omega), if_neg (by omega), if_pos rfl]
          exact q_sg_g _ _ _⟩⟩).2 hA sc Sc).1 kc
        exact ⟨_, v3.2.2.2⟩
      · exact ((mk w d O c hw).2 hA sc Sc).1 kc
    · obtain ⟨u, u1, u2⟩ := g2 (by omega)
      exact Or.inr (Or.inl ⟨u, u1, u2, fun w d O c hw => ((mk w d O c hw).2 hA sc Sc).2 (by omega)⟩)
  · obtain ⟨u, u1, u2, u3⟩ := cN' hA
    exact Or.inl ⟨u, u1, u2, u3, fun w d O c hw => (mk w d O c hw).1 hA⟩
theorem both_perf (I : Inv m b) (hb : b < 2147483646) (P : PlO m b T Lf sc) (PC : PlanC m T Lf sc s) (H : RB m s 7) (hL : LawP m (q_g s 49) (q_g s 50) (q_g s 51) (q_g s 52) (q_g s 53)) (pw0 : -2147483648 ≤ pw) (pw1 : pw < 2147483648) (pw0' : -2147483648 ≤ pw') (pw1' : pw' < 2147483648) (hpw : dr = true ∨ pw = pw' ∨ (48 < pw ∧ 48 < pw')) : ∃ u ans, EV (d + 6) 97 0 [.ref 241, .ref 7, .ref 49, .int (q_I (pw)), .int (q_I (bI dr)), .null, .null] [] (q_h L xs s O c) = some (.inl (some (.int (q_I (ans)))), q_h L xs (u) O c) ∧ CrF s u ∧ (ans = 0 ∨ ans = 1) ∧ ∀ (v : Nat → Int → Int32) (d : Nat) (O : Nat → Int64) (c : Bool × Nat × Nat), q_g v 286 = m → PlanM m T Lf sc v → ∃ t, EV (d + 37) 285 0 [.ref 285, .int (q_I (pw')), .int (q_I (bI dr)), .null, .null] [] (q_h L xs (v) O c) = some (.inl (some (.int (q_I (ans)))), q_h L xs (t) O c) ∧ RB (q_g t 286) u 7 ∧ Inv (q_g t 286) (b + 1) ∧ (∀ z, z < 0 ∨ z = 0 ∨ z = 1 ∨ z = 2 ∨ z = 3 ∨ z = 5 ∨ 1049 ≤ z → q_g t 286 z = m z) ∧ PfF v t := by
  obtain ⟨Lv, D, PT, LP, OL, DP, Sc, Kc, kn, pl0, pI0⟩ := P
  have s0 := Sc.1
  have s8 := Sc.2.1
  have Tk := inv_tk I (by omega)
  have K0 : 0 ≤ cNo T + sc := by omega
  have ct := TK_ct Tk K0 Kc
  have hcst : ∀ pl, PlI m T Lf sc pl → ∀ k, 0 ≤ k → k ≤ cNo T + sc → 0 ≤ cst m pl (wq m (cNo T + sc) k) := fun pl pI k k0 k1 => by
    have qr := wq_rg Tk K0 Kc k0 k1
    have oa := (own_all Tk PC PT pI s0 s8 kn Kc k0 k1).2.1
    have := LTot_rg (w := 4) hL (fcs_Rg I (by omega) qr.1 qr.2 oa)
    unfold cst
    omega
  obtain ⟨u, u1, u2, u3⟩ := cc_co (d := d) (L := L) (xs := xs) (s := s) (O := O) (c := c) (dr := dr) I hb PT pI0 s0 s8 kn Kc pw0 pw1 PC hL H
  obtain ⟨-, -, a0⟩ := prfm_inv (dr := dr) (pw := pw) I hb D PT LP OL DP Sc Kc pI0 kn (hcst pl0 pI0) (cNo T + sc + 1).toNat 0 m (by omega) (by omega) (Mid_0 I)
  refine ⟨u, _, u1, u3, a0, fun v d' O' c' em PM => ?_⟩
  have pI1 := PM.2.2.2
  obtain ⟨w, w1, w2, w3⟩ := cc_co (d := d) (L := L) (xs := xs) (s := s) (O := O) (c := c) (dr := dr) I hb PT pI1 s0 s8 kn Kc pw0 pw1 PC hL H
  obtain ⟨i1, i2, a1⟩ := prfm_inv (dr := dr) (pw := pw) I hb D PT LP OL DP Sc Kc pI1 kn (hcst _ pI1) (cNo T + sc + 1).toNat 0 m (by omega) (by omega) (Mid_0 I)
  have eq := Option.some.inj (u1.symm.trans w1)
  have eh := (Prod.mk.inj eq).2
  have ea := (Prod.mk.inj eq).1
  have ea := Value.int.inj (Option.some.inj (Sum.inl.inj ea))
  have ea : q_sg (prfm m pl0 (cNo T + sc) dr pw (cNo T + sc + 1).toNat 0 m).1 = q_sg (prfm m (q_g v 305) (cNo T + sc) dr pw (cNo T + sc + 1).toNat 0 m).1 := congrArg Int32.toInt ea
  rw [q_sg_id (by omega) (by omega), q_sg_id (by omega) (by omega)] at ea
  have ep : prfm m (q_g v 305) (cNo T + sc) dr pw' (cNo T + sc + 1).toNat 0 m = prfm m (q_g v 305) (cNo T + sc) dr pw (cNo T + sc + 1).toNat 0 m := by
    rcases hpw with h | h | h
    · exact prfm_pw (Or.inl h) _ _ _ (by omega)
    · rw [h]
    · exact prfm_pw (Or.inr ⟨by omega, by omega⟩) _ _ _ (by omega)
  obtain ⟨t, t1, t2, t3⟩ := mm_pfm (d := d') (L := L) (xs := xs) (s := v) (O := O') (c := c') (dr := dr) (pw := pw') I hb PT s0 s8 kn Kc pw0' pw1' hL em PM
  rw [ep] at t1 t2
  refine ⟨t, by rw [ea]; exact t1, ?_, by rw [t2]; exact i1, fun z hz => by rw [t2]; exact i2 z hz, t3⟩
  rw [t2]
  refine RB_heap eh w2 (fun q q0 q1 => ?_) i1.2.1.2.1 i1.2.2.1.2.2.2.2.2.2.2.2.2
  by_cases e2 : q < 2
  · have h1 := i1.1.1
    rcases (show q = 0 ∨ q = 1 by omega) with e | e
    · rw [e]
      omega
    · rw [e]
      omega
  · exact (i1.1.2.1 q (by omega) q1).2.2.1
end BT2
