/-! THE REFERENCE: a change of the draft, behind the leaf's change -/
section MCG
variable {d L : Nat} {xs : Nat → Int32} {s u2 u3 : Nat → Int → Int32} {O : Nat → Int64} {c : Bool × Nat × Nat} {key v lo hi y n : Int} {a b : Int → Int} {h : Nat} {t : Tr} {Lf : Int → Prop} {g : Int → (Int → Int) → (Int → Int) → Tr}
theorem low_id (o : OkR t h lo hi) (hz : 2 ≤ tsz t ∨ h = 0) : lowT t = t ∧ ∀ z, ¬ LPg t z := by
  cases t using Tr_cs with
  | lf p n a b =>
    try dsimp only [OkR_e1, OkR_e2, LPg_e1, LPg_e2] at *
    exact ⟨rfl, fun z hz => hz⟩
  | br p n a cc =>
    try dsimp only [OkR_e1, OkR_e2, LPg_e1, LPg_e2] at *
    obtain ⟨h', e, r⟩ := o
    have n2 : 2 ≤ n := by
      rcases hz with hz | hz
      · exact hz
      · omega
    try dsimp only [OkR_e1, OkR_e2, LPg_e1, LPg_e2]
    refine ⟨?_, fun z hz => ?_⟩
    · try dsimp only [lowT_e1, lowT_e2]
      rw [if_neg (by omega)]
    · have := hz.1
      omega
theorem mdz_set : ∀ {t : Tr} {h : Nat} {lo hi : Int}, Okt t h lo hi → mdz key (gSet key v) t = 0 := by
  intro t
  induction t using Tr_rc with
  | lf p n a b =>
    try dsimp only [Okt_e1, Okt_e2] at *
    exact fun _ => rfl
  | br p n a cc ih =>
    try dsimp only [Okt_e1, Okt_e2] at *
    rintro h lo hi ⟨h', e, n0, n1, r⟩
    obtain ⟨s0, s1, s2, s3⟩ := slt_ok (n := n) (a := a) (key := key) n0
    obtain ⟨r1, r2, r3⟩ := r _ s0 s1
    have i1 := ih _ r3
    have i2 := (chg_set_l (key := key) (v := v) r3).2
    have sz := (Okt_R r3).2
    try dsimp only [mdz_e1, mdz_e2]
    rw [i1, if_neg (by omega)]
    rfl
theorem rnw_tw : ∀ {t : Tr} {h : Nat} {lo hi : Int}, Okt t h lo hi → rnw 1 key t ≤ tw (wt 1) t := by
  intro t
  induction t using Tr_rc with
  | lf p n a b =>
    try dsimp only [Okt_e1, Okt_e2] at *
    intro h lo hi o
    show (if p = -1 then (0 : Int) else 1) ≤ wt 1 p n
    unfold wt
    split <;> split <;> omega
  | br p n a cc ih =>
    try dsimp only [Okt_e1, Okt_e2] at *
    rintro h lo hi ⟨h', e, n0, n1, r⟩
    obtain ⟨s0, s1, s2, s3⟩ := slt_ok (n := n) (a := a) (key := key) n0
    obtain ⟨r1, r2, r3⟩ := r _ s0 s1
    have i1 := ih _ r3
    have up0 := smz_up (f := fun k => tw (wt 1) (cc k)) (j := slt n a key) (v := 0) (n := n.toNat) s0 (by omega)
    have p0 : 0 ≤ smz (up (fun k => tw (wt 1) (cc k)) (slt n a key) 0) n.toNat := smz_0 (fun k _ _ => by
      unfold up
      split
      · exact Int.le_refl _
      · exact tw_0 (wt_0 (by omega)) _)
    show (if p = -1 then (0 : Int) else 1) + rnw 1 key (cc (slt n a key)) ≤ wt 1 p n + smz (fun k => tw (wt 1) (cc k)) n.toNat
    have w0 : (if p = -1 then (0 : Int) else 1) ≤ wt 1 p n := by
      unfold wt
      split <;> split <;> omega
    omega
theorem mm_after (N48 : 48 ≤ q_g u2 285 25) (o : Okt t h 0 100) (hh : h ≤ 12) (S2 : Sub (dM u2) (q_g u2 285 25) (ren key t) (q_g u2 285 26)) (fL : ∀ g D' N', Chd (dM u2) (q_g u2 285 25) (.lf (-1) n a b) y D' N' (g n a b) y → LC (dM u2) (q_g u2 285 25) key g D' N' (ren key t) (q_g u2 285 26)) (hl : LfM u2 Lf) (hw : ∀ i : Nat, i ≤ h → q_g u2 299 i = wyn (dM u2) key (ren key t) (q_g u2 285 26) i) (hs : ∀ i : Nat, i < h → q_g u2 300 i = sln key (ren key t) i) (fr : ∀ k, k ≠ 295 → k ≠ 296 → k ≠ 297 → u3 k = u2 k) (C1 : Chd (dM u2) (q_g u2 285 25) (.lf (-1) n a b) y (dM u3) (q_g u2 285 25) (g n a b) y) (oR : OkR (chg key g t) h 0 100) (hN : q_g u2 285 25 + mdz key g t + (if tsz (chg key g t) = 5 then 2 else 0) ≤ 240) : ∃ u, EV (d + 3) 267 0 [.ref 285, .int (q_I ((h : Int))), .null, .null, .null] [] (q_h L xs (u3) O c) = some (.inl none, q_h L xs (u) O c) ∧ (tsz (chg key g t) = 5 → Sub (dM u) (q_g u 285 25) (topT (chg key g t)) (q_g u 285 26) ∧ LfM u Lf) ∧ (tsz (chg key g t) = 0 → q_g u 285 26 = -1 ∧ LfM u Lf) ∧ (tsz (chg key g t) ≠ 0 → tsz (chg key g t) ≠ 5 → Sub (dM u) (q_g u 285 25) (lowT (chg key g t)) (q_g u 285 26) ∧ LfM u (fun z => Lf z ∨ LPg (chg key g t) z)) ∧ q_g u 285 25 = q_g u2 285 25 + mdz key g t + (if tsz (chg key g t) = 5 then 2 else 0) ∧ ∀ k z, ¬ (294 ≤ k ∧ k ≤ 297) → ¬ (k = 285 ∧ (z = 25 ∨ z = 26)) → k ≠ 301 → u k z = u2 k z := by
  have ug : ∀ k z, k ≠ 295 → k ≠ 296 → k ≠ 297 → q_g u3 k z = q_g u2 k z := fun k z h1 h2 h3 => by
    show (u3 k z).toInt = _
    rw [fr k h1 h2 h3]
    rfl
  have g25 := ug 285 25 (by decide) (by decide) (by decide)
  have g26 := ug 285 26 (by decide) (by decide) (by decide)
  have mm := mm_mends (d := d) (L := L) (xs := xs) (O := O) (c := c) (s := u3) (D0 := dM u2) (N0 := q_g u2 285 25) (g := g) (t := ren key t) (lo' := 0) (hi' := 100) (Lf := Lf) (by omega) (Okt_ren o).1 (FWy_ren t) (by rw [g26]; exact S2) (fun i hi => by rw [ug 299 _ (by decide) (by decide) (by decide), g26]; exact hw i hi) (fun i hi => by rw [ug 300 _ (by decide) (by decide) (by decide)]; exact hs i hi) (by rw [g26, g25]; exact fL g _ _ C1) (by rw [g25, mdz_ren, chg_ren]; exact hN) (by omega) (by rw [chg_ren]; exact oR) (LfM_sm hl (fun z _ => by rw [fr 301 (by decide) (by decide) (by decide)]))
  rw [chg_ren, mdz_ren, g25] at mm
  obtain ⟨u, m1, m2, m3, m4, m5, m6⟩ := mm
  exact ⟨u, m1, m2, m3, m4, m5, fun k z k1 k2 k3 => by rw [m6 k z k1 k2 k3, fr k (by omega) (by omega) (by omega)]⟩
end MCG
