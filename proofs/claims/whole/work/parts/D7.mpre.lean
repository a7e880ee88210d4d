/-! THE REFERENCE: the way found, the leaf looked at, the way made new -/
section MPR
variable {d L : Nat} {xs : Nat → Int32} {s : Nat → Int → Int32} {O : Nat → Int64} {c : Bool × Nat × Nat} {key lo hi : Int} {h : Nat} {t : Tr} {Lf : Int → Prop}
theorem mm_pre (k0 : 0 ≤ key) (k1 : key < 100) (o : Okt t h lo hi) (hh : h ≤ 12) (S : Sub (dM s) (q_g s 285 25) t (q_g s 285 26)) (N48 : 48 ≤ q_g s 285 25) (hN : q_g s 285 25 + rnw 1 key t ≤ 240) (hl : LfM s Lf) : ∃ u1 u2 y0 y n a b, EV (d + 2) 264 0 [.ref 285, .int (q_I (key)), .null, .null, .null] [] (q_h L xs s O c) = some (.inl (some (.int (q_I ((h : Int))))), q_h L xs (u1) O c) ∧ q_g u1 299 h = y0 ∧ 2 ≤ y0 ∧ y0 < 240 ∧ EV (d + 2) 263 0 [.ref 285, .int (q_I (y0)), .int (q_I (key)), .null] [] (q_h L xs (u1) O c) = some (.inl (some (.int (q_I (if hasL key n a b then plz n a key else -plz n a key - 1)))), q_h L xs (u1) O c) ∧ (∀ k, 0 ≤ k → k < n → q_g u1 297 (6 * y0 + k) = b k) ∧ EV (d + 2) 265 0 [.ref 285, .int (q_I ((h : Int))), .null] [] (q_h L xs (q_u u1 285 29 1) O c) = some (.inl none, q_h L xs (u2) O c) ∧ Sub (dM u2) (q_g u2 285 25) (ren key t) (q_g u2 285 26) ∧ q_g u2 285 25 = q_g s 285 25 + rnw 1 key t ∧ Sub (dM u2) (q_g u2 285 25) (.lf (-1) n a b) y ∧ q_g u2 299 h = y ∧ 1 ≤ n ∧ n ≤ 4 ∧ (∀ Q, atL key Q t ↔ Q n a b) ∧ valK key t = b (plz n a key) ∧ (∀ g D' N', Chd (dM u2) (q_g u2 285 25) (.lf (-1) n a b) y D' N' (g n a b) y → LC (dM u2) (q_g u2 285 25) key g D' N' (ren key t) (q_g u2 285 26)) ∧ LfM u2 (fun z => Lf z ∨ WP key t z) ∧ (∀ i : Nat, i ≤ h → q_g u2 299 i = wyn (dM u2) key (ren key t) (q_g u2 285 26) i) ∧ (∀ i : Nat, i < h → q_g u2 300 i = sln key (ren key t) i) ∧ q_g u2 285 29 = 1 ∧ (∀ k z, k ≠ 299 → k ≠ 300 → u1 k z = s k z) ∧ ∀ k z, ¬ (294 ≤ k ∧ k ≤ 301) → ¬ (k = 285 ∧ (z = 25 ∨ z = 26 ∨ z = 29)) → u2 k z = s k z := by
  have r0 := rnw_0 (q := 1) (key := key) (by omega) t
  obtain ⟨u1, f1, f2, f3, f4⟩ := mm_seeks (d := d + 1) (L := L) (xs := xs) (O := O) (c := c) (key := key) (by omega) (by omega) o S rfl (by omega) (by omega)
  have ug : ∀ k z, k ≠ 299 → k ≠ 300 → q_g u1 k z = q_g s k z := fun k z h1 h2 => by
    show (u1 k z).toInt = _
    rw [f4 k z h1 h2]
    rfl
  have eD : dM (q_u u1 285 29 1) = dM s := dM_c (fun k a1 a2 => by rw [q_u_k (by omega)]; exact funext fun z => f4 k z (by omega) (by omega))
  have g25 : q_g (q_u u1 285 29 1) 285 25 = q_g s 285 25 := by rw [q_gu_ne (by omega), ug 285 25 (by omega) (by omega)]
  obtain ⟨u2, y', m1, m2, m3, m4, m5, m6, m7, m8, m9, m10, m11, m12⟩ := mm_renL (d := d) (L := L) (xs := xs) (O := O) (c := c) (key := key) (D := (h : Int)) 0 (q_g s 285 26) 0 0 (q_u u1 285 29 1) Lf o (by rw [eD, g25]; exact S) (by rw [g25]; exact N48) (by rw [g25]; exact hN) (fun i hi => by rw [q_gu_ne (by omega), Int.zero_add, eD]; exact f2 i hi) (fun i hi => by rw [q_gu_ne (by omega), Int.zero_add]; exact f3 i hi) (by omega) (by omega) (by omega) (fun z => absurd rfl z) (LfM_sm hl (fun z _ => by rw [q_u_n (by omega), f4 301 z (by omega) (by omega)]))
  have ey := m7 rfl
  subst ey
  rw [g25] at m3
  obtain ⟨p, n, a, b, lo', hi', q1, q2, q3, q4, q5, q6, q7, q8, q9, q10⟩ := leaf_at (key := key) (Okt_ren o).1 m2
  have ep : p = -1 := q9 (FWy_ren t)
  subst ep
  obtain ⟨p0, n0, a0, b0, lo0, hi0, w1, w2, w3, w4, w5, w6, w7, w8, w9, w10⟩ := leaf_at (key := key) o S
  have el := leaf_ren w10
  rw [q10] at el
  obtain ⟨-, el2, el3, el4⟩ := Tr_lf_inj el
  subst el2
  subst el3
  subst el4
  have yr := w1.2.2 _ rfl
  obtain ⟨a1, a2, a3, a4, a5, a6⟩ := Sub_R1 w1
  have hR : q_g u1 295 (wyn (dM s) key t (q_g s 285 26) h) = n := by rw [ug 295 _ (by omega) (by omega)]; exact a2
  have hA : ∀ k, 0 ≤ k → k < n → q_g u1 296 (6 * wyn (dM s) key t (q_g s 285 26) h + k) = a k := fun k z0 z1 => by rw [ug 296 _ (by omega) (by omega)]; exact (a6 k z0 z1).1
  try dsimp only [Okt_e1, Okt_e2, atL_e1, atL_e2, LC_e1, LC_e2, WP_e1, WP_e2, ren_e1, ren_e2]
  refine ⟨u1, u2, wyn (dM s) key t (q_g s 285 26) h, wyn (dM u2) key (ren key t) (q_g u2 285 26) h, n, a, b, f1, f2 h (Nat.le_refl _), yr.1, by omega, mm_placeOf (key := key) (by omega) (by omega) yr.1 (by omega) hR a3 a4 hA, fun k z0 z1 => by rw [ug 297 _ (by omega) (by omega)]; exact (a6 k z0 z1).2, ?_, m2, m3, q1, ?_, q2, q3, w5, w6, fun g D' N' hc => q8 g _ D' N' hc, m11, fun i hi => ?_, fun i hi => ?_, ?_, f4, fun k z h1 h2 => ?_⟩
  · rw [R_265_0]
    exact m1
  · have := m9 h (Nat.le_refl _)
    rw [Int.zero_add] at this
    exact this
  · have := m9 i hi
    rw [Int.zero_add] at this
    exact this
  · show (u2 300 i).toInt = _
    rw [m12 300 i (by omega) (by omega) (by omega) (by omega), q_u_n (by omega), (wyn_ren (D := dM s) (D' := dM s) (key := key) (t := t) (x := 0) (fun _ => rfl) i).2]
    exact f3 i hi
  · show (u2 285 29).toInt = _
    rw [m12 285 29 (by omega) (by omega) (by omega) (by omega)]
    show q_g (q_u u1 285 29 1) 285 29 = 1
    rw [q_gu_eq rfl]
    rfl
  · rw [m12 k z (by omega) (by omega) (by omega) (by omega), q_u_n (by omega), f4 k z (by omega) (by omega)]
end MPR
