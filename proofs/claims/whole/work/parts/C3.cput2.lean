/-! THE CLASS: a key is put -/
section CP2
variable {d L : Nat} {xs : Nat → Int32} {s u : Nat → Int → Int32} {O : Nat → Int64} {c : Bool × Nat × Nat} {D : Ar} {N x key v lo hi : Int} {h : Nat} {t : Tr} {Lf : Int → Prop} {g : Int → (Int → Int) → (Int → Int) → Tr}
theorem atL_ren {Q : Int → (Int → Int) → (Int → Int) → Prop} : ∀ t, atL key Q (ren key t) ↔ atL key Q t := by
  intro t
  induction t using Tr_rc with
  | lf p n a b =>
    try dsimp only [atL_e1, atL_e2, ren_e1, ren_e2] at *
    exact Iff.rfl
  | br p n a cc ih =>
    try dsimp only [atL_e1, atL_e2, ren_e1, ren_e2] at *
    try simp only [ren_e1, ren_e2, atL_e1, atL_e2]
    rw [up_eq rfl]
    exact ih _
theorem valK_ren : ∀ t, valK key (ren key t) = valK key t := by
  intro t
  induction t using Tr_rc with
  | lf p n a b =>
    rfl
  | br p n a cc ih =>
    try simp only [ren_e1, ren_e2, valK_e1, valK_e2]
    rw [up_eq rfl]
    exact ih _
theorem mdz_ren : ∀ t, mdz key g (ren key t) = mdz key g t := by
  intro t
  induction t using Tr_rc with
  | lf p n a b =>
    rfl
  | br p n a cc ih =>
    try simp only [ren_e1, ren_e2, mdz_e1, mdz_e2]
    rw [up_eq rfl, ih, chg_ren]
/-- the way found, the leaf looked at, the way made new -/
theorem cc_pre (k0 : 0 ≤ key) (k1 : key < 100) (o : Okt t h lo hi) (hh : h ≤ 12) (S : Sub (dC s) (q_g s 242 9) t (q_g s 242 10)) (hN : q_g s 242 9 ≤ 176) (hl : LfC s Lf) : ∃ u1 u2 y n a b, EV (d + 1) 47 0 [.ref 242, .int (q_I (key)), .null, .null] [] (q_h L xs s O c) = some (.inl (some (.int (q_I (y)))), q_h L xs (u1) O c) ∧ 2 ≤ y ∧ y < q_g s 242 9 ∧ EV (d + 1) 49 0 [.ref 242, .int (q_I (y)), .int (q_I (key)), .null] [] (q_h L xs (u1) O c) = some (.inl (some (.int (q_I (plz n a key)))), q_h L xs (u1) O c) ∧ EV (d + 1) 50 0 [.ref 242, .int (q_I (y)), .int (q_I (plz n a key)), .int (q_I (key))] [] (q_h L xs (u1) O c) = some (.inl (some (.int (q_I (q_b (hasL key n a b))))), q_h L xs (u1) O c) ∧ EV (d + 1) 51 0 [.ref 242, .null] [] (q_h L xs (u1) O c) = some (.inl none, q_h L xs (u2) O c) ∧ Sub (dC u2) (q_g u2 242 9) (ren key t) (q_g s 242 10) ∧ Sub (dC u2) (q_g u2 242 9) (.lf (-1) n a b) y ∧ 1 ≤ n ∧ n ≤ 4 ∧ (∀ Q, atL key Q t ↔ Q n a b) ∧ valK key t = b (plz n a key) ∧ (∀ g D' N', Chd (dC u2) (q_g u2 242 9) (.lf (-1) n a b) y D' N' (g n a b) y → LC (dC u2) (q_g u2 242 9) key g D' N' (ren key t) (q_g s 242 10)) ∧ LfC u2 (fun z => Lf z ∨ WP key t z) ∧ q_g u2 242 8 = (h : Int) + 1 ∧ (∀ i : Nat, i ≤ h → q_g u2 249 i = wyn (dC u2) key (ren key t) (q_g s 242 10) i) ∧ (∀ i : Nat, i < h → q_g u2 250 i = sln key (ren key t) i) ∧ q_g u2 242 11 = 1 ∧ (∀ k z, ¬ (247 ≤ k ∧ k ≤ 250) → ¬ (k = 242 ∧ (z = 8 ∨ z = 11)) → u2 k z = s k z) ∧ (∀ k z, k ≠ 249 → k ≠ 250 → ¬ (k = 242 ∧ z = 8) → u1 k z = s k z) ∧ y = wyn (dC u2) key (ren key t) (q_g s 242 10) h := by
  obtain ⟨u1, f1, f2, f3, f4, f5, f6⟩ := cc_find (d := d) (L := L) (xs := xs) (O := O) (c := c) (key := key) (by omega) (by omega) o S rfl hN (by omega)
  have g9 : q_g u1 242 9 = q_g s 242 9 := by
    show (u1 242 9).toInt = _
    rw [f6 242 9 (by omega) (by omega) (by omega)]
    rfl
  have hl1 : LfC u1 Lf := by
    have e7 : u1 247 = s 247 := funext fun z => f6 247 z (by omega) (by omega) (by omega)
    have e8 : u1 248 = s 248 := funext fun z => f6 248 z (by omega) (by omega) (by omega)
    unfold LfC q_g at *
    rw [e7, e8]
    exact hl
  obtain ⟨u2, r1, r2, r3, r4, r5, r6⟩ := cc_ren (d := d) (L := L) (xs := xs) (O := O) (c := c) (s := u1) (key := key) (x := q_g s 242 10) o (by rw [f2, g9]; exact S) (by rw [g9]; exact hN) (by omega) f3 (fun i hi => by rw [f2]; exact f4 i hi) hl1
  have wr := fun i => wyn_ren (D := dC u1) (D' := dC u2) (key := key) (t := t) (x := q_g s 242 10) (fun y => (r4 y).2.2.2) i
  obtain ⟨p, n, a, b, lo', hi', q1, q2, q3, q4, q5, q6, q7, q8, q9, -⟩ := leaf_at (key := key) (Okt_ren o).1 r2
  have ep : p = -1 := q9 (FWy_ren t)
  subst ep
  have h9 : q_g u2 242 9 = q_g s 242 9 := by
    show (u2 242 9).toInt = _
    rw [r5 242 9 (by omega) (by omega) (by omega)]
    exact g9
  have ey : wyn (dC s) key t (q_g s 242 10) h = wyn (dC u2) key (ren key t) (q_g s 242 10) h := by rw [(wr h).1, f2]
  rw [ey] at f1
  generalize hy : wyn (dC u2) key (ren key t) (q_g s 242 10) h = y at *
  have yr := q1.2.2 y rfl
  rw [h9] at yr
  obtain ⟨a1, a2, a3, a4, a5, a6⟩ := q1.1
  have hR : q_g u1 244 y = n := ((r4 y).2.1).symm.trans a2
  have hA : ∀ k, 0 ≤ k → k < n → q_g u1 245 (6 * y + k) = a k := fun k k0 k1 => (congrFun (r4 y).2.2.1 k).symm.trans (a6 k k0 k1).1
  have pz := plz_ok (n := n) (a := a) (key := key) a3
  try dsimp only [Okt_e1, Okt_e2, atL_e1, atL_e2, LC_e1, LC_e2, WP_e1, WP_e2, ren_e1, ren_e2]
  refine ⟨u1, u2, y, n, a, b, f1, yr.1, yr.2, cc_placeOf (key := key) (by omega) (by omega) g9 yr.1 yr.2 (by omega) hR a3 a4 hA, cc_hasAt (key := key) (k := plz n a key) (by omega) (by omega) g9 yr.1 yr.2 (by omega) hR a4 pz.1 pz.2.1 hA, r1, r2, q1, q2, q3, fun Q => (atL_ren t).symm.trans (q5 Q), (valK_ren t).symm.trans q6, fun g D' N' hc => q8 g _ D' N' hc, r3, ?_, fun i hi => ?_, fun i hi => ?_, r6, fun k z h1 h2 => ?_, f6, hy.symm⟩
  · show (u2 242 8).toInt = _
    rw [r5 242 8 (by omega) (by omega) (by omega)]
    exact f3
  · show (u2 249 i).toInt = _
    rw [r5 249 i (by omega) (by omega) (by omega), (wr i).1, f2]
    exact f4 i hi
  · show (u2 250 i).toInt = _
    rw [r5 250 i (by omega) (by omega) (by omega), (wr i).2]
    exact f5 i hi
  · rw [r5 k z (by omega) (by omega) (by omega), f6 k z (by omega) (by omega) (by omega)]
end CP2
