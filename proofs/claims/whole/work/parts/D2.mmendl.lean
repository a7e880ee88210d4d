/-! THE REFERENCE: all above a changed leaf is mended; a root of five; the root is lowered -/
section MML
variable {d L : Nat} {xs : Nat → Int32} {s s1 u : Nat → Int → Int32} {O : Nat → Int64} {c : Bool × Nat × Nat} {D0 : Ar} {N N0 x key : Int} {t : Tr} {g : Int → (Int → Int) → (Int → Int) → Tr}
theorem mm_mendL {D : Int} (N48 : 48 ≤ q_g s 285 25) : ∀ {t : Tr} {h : Nat} {lo hi : Int} (l x : Int) (x3 x4 : Value), Okt t h lo hi → FWy key t → Sub D0 N0 t x → (∀ i : Nat, i ≤ h → q_g s 299 (l + i) = wyn D0 key t x i) → (∀ i : Nat, i < h → q_g s 300 (l + i) = sln key t i) → LC D0 N0 key g (dM s) (q_g s 285 25) t x → q_g s 285 25 + mdz key g t ≤ 240 → 0 ≤ l → l + h < 16 → ∃ u z3 z4, EV (d + 3) 267 4 [.ref 285, .int (q_I (D)), .int (q_I (l + h - 1)), x3, x4] [] (q_h L xs s O c) = EV (d + 3) 267 4 [.ref 285, .int (q_I (D)), .int (q_I (l - 1)), z3, z4] [] (q_h L xs (u) O c) ∧ Chd D0 N0 t x (dM u) (q_g u 285 25) (chg key g t) x ∧ q_g u 285 25 = q_g s 285 25 + mdz key g t ∧ FE s u := by
  intro t
  induction t using Tr_rc with
  | lf p n a b =>
    try dsimp only [Okt_e1, Okt_e2, FWy_e1, FWy_e2, LC_e1, LC_e2] at *
    rintro h lo hi l x x3 x4 ⟨e, n0, n1, o⟩ hF S hw hs' hL hN l0 l1
    subst e
    try dsimp only [Okt_e1, Okt_e2, FWy_e1, FWy_e2, LC_e1, LC_e2]
    refine ⟨s, x3, x4, by simp, hL, ?_, FE_refl⟩
    show _ = q_g s 285 25 + 0
    omega
  | br p n a cc ih =>
    try dsimp only [Okt_e1, Okt_e2, FWy_e1, FWy_e2, LC_e1, LC_e2] at *
    rintro h lo hi l x x3 x4 ⟨h', e, n0, n1, r⟩ ⟨hp, hF⟩ S hw hs' hL hN l0 l1
    subst e
    subst hp
    obtain ⟨s0', s1', s2, s3⟩ := slt_ok (n := n) (a := a) (key := key) n0
    have w0' : q_g s 299 (l + ((0 : Nat) : Int)) = x := hw 0 (by omega)
    have w1' : q_g s 299 (l + ((1 : Nat) : Int)) = D0.B x (slt n a key) := by
      refine (hw 1 (by omega)).trans ?_
      show wyn D0 key (cc (slt n a key)) (D0.B x (slt n a key)) 0 = _
      exact wyn_0 _ _ _ _
    have v0' : q_g s 300 (l + ((0 : Nat) : Int)) = slt n a key := hs' 0 (by omega)
    have eN : mdz key g (.br (-1) n a cc) = mdz key g (cc (slt n a key)) + (if tsz (chg key g (cc (slt n a key))) = 5 then 1 else 0) := rfl
    have m0 := mdz_0 (key := key) (g := g) (cc (slt n a key))
    rw [eN] at hN
    have q := ih (slt n a key) (l + 1) (D0.B x (slt n a key)) x3 x4 (r _ s0' s1').2.2 hF (Sub_kid S s0' s1') (fun i hi => by
      have := hw (i + 1) (by omega)
      rw [show l + ((i + 1 : Nat) : Int) = l + 1 + (i : Int) by omega] at this
      exact this) (fun i hi => by
      have := hs' (i + 1) (by omega)
      rw [show l + ((i + 1 : Nat) : Int) = l + 1 + (i : Int) by omega] at this
      exact this) hL (by split at hN <;> omega) (by omega) (by omega)
    obtain ⟨u, y3, y4, u1, u2, u3, u4⟩ := q
    have ec : chg key g (.br (-1) n a cc) = mend (-1) n a cc (slt n a key) (chg key g (cc (slt n a key))) := rfl
    rw [ec, eN]
    generalize slt n a key = jj at *
    obtain ⟨z, z3, z4, z1, z2, z5, z6⟩ := mm_stepM (d := d) (L := L) (xs := xs) (O := O) (c := c) (s := u) (i := l) (D := D) (x3 := y3) (x4 := y4) S s0' s1' (by omega) u2 (by omega) (by split at hN <;> omega) (fun h5 => by rw [if_pos h5] at hN; omega) (by omega) (by omega) (by rw [FE_g u4 (by omega) (by omega)]; exact w1') (by rw [FE_g u4 (by omega) (by omega), show l = l + ((0 : Nat) : Int) by omega]; exact w0') (by rw [FE_g u4 (by omega) (by omega), show l = l + ((0 : Nat) : Int) by omega]; exact v0')
    try dsimp only [Okt_e1, Okt_e2, FWy_e1, FWy_e2, LC_e1, LC_e2]
    refine ⟨z, z3, z4, ?_, z2, by rw [z5, u3]; omega, FE_trans u4 z6⟩
    rw [show l + ((h' + 1 : Nat) : Int) - 1 = l + 1 + (h' : Int) - 1 by omega, u1, show l + 1 - 1 = l by omega, z1]
end MML
