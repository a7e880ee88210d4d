/-! THE CLASS: the way is found, and new -/
noncomputable def WP (key : Int) : Tr → Int → Prop := tr_rec (fun p u0_ u1_ u2_ z => p ≠ -1 ∧ z = p) (fun p n a c r_ z => (p ≠ -1 ∧ z = p) ∨ r_ (slt n a key) z)
theorem WP_e1 (key : Int) (p u0_ : Int) (u1_ : Int → Int) (u2_ : Int → Int) (z : Int) : WP key (.lf p u0_ u1_ u2_) z = (p ≠ -1 ∧ z = p) := rfl
theorem WP_e2 (key : Int) (p n : Int) (a : Int → Int) (c : Int → Tr) (z : Int) : WP key (.br p n a c) z = ((p ≠ -1 ∧ z = p) ∨ WP key (c (slt n a key)) z) := rfl
/-- pages that are left -/
noncomputable def LfC (s : Nat → Int → Int32) (Lf : Int → Prop) : Prop := (∀ z, 0 ≤ z → z < 48 → (q_g s 248 z = 0 ∨ q_g s 248 z = 1) ∧ (q_g s 248 z = 1 ↔ Lf z)) ∧ ∀ z, 0 ≤ z → z < 48 → q_g s 247 z = 1 → Lf z
section CRN
variable {d L : Nat} {xs : Nat → Int32} {s s0 s1 u : Nat → Int → Int32} {O : Nat → Int64} {c : Bool × Nat × Nat} {D D0 D' : Ar} {N N0 x y j l p n key lo hi : Int} {h : Nat} {t : Tr} {Lf : Int → Prop}
theorem OW_WP : ∀ {t : Tr} {h : Nat} {lo hi x z : Int}, Okt t h lo hi → Rep D t x → 0 ≤ z → OW D key t x z → D.fr z = 1 ∨ WP key t z := by
  intro t
  induction t using Tr_rc with
  | lf p n a b =>
    try dsimp only [Rep_e1, Rep_e2, Okt_e1, Okt_e2, OW_e1, OW_e2, WP_e1, WP_e2] at *
    intro h lo hi x z o hr z0 e
    have e : z = x := e
    subst e
    rcases hr.2.2.2.2.1 with ⟨f, g⟩ | ⟨f, g⟩
    · exact Or.inr ⟨by omega, g.symm⟩
    · exact Or.inl f
  | br p n a cc ih =>
    try dsimp only [Rep_e1, Rep_e2, Okt_e1, Okt_e2, OW_e1, OW_e2, WP_e1, WP_e2] at *
    rintro h lo hi x z ⟨h', e, n0, n1, r⟩ hr z0 ho
    obtain ⟨s0, s1, s2, s3⟩ := slt_ok (n := n) (a := a) (key := key) n0
    rcases ho with e | e
    · subst e
      rcases hr.2.2.2.2.1 with ⟨f, g⟩ | ⟨f, g⟩
      · exact Or.inr (Or.inl ⟨by omega, g.symm⟩)
      · exact Or.inl f
    · rcases ih _ (r _ s0 s1).2.2 (hr.2.2.2.2.2 _ s0 s1).2 z0 e with f | f
      · exact Or.inl f
      · exact Or.inr (Or.inr f)
theorem WP_OW : ∀ {t : Tr} {h : Nat} {lo hi x z : Int}, Okt t h lo hi → Rep D t x → WP key t z → OW D key t x z := by
  intro t
  induction t using Tr_rc with
  | lf p n a b =>
    try dsimp only [Rep_e1, Rep_e2, Okt_e1, Okt_e2, OW_e1, OW_e2, WP_e1, WP_e2] at *
    rintro h lo hi x z o hr ⟨e1, e2⟩
    rcases hr.2.2.2.2.1 with ⟨f, g⟩ | ⟨f, g⟩
    · exact e2.trans g
    · exact absurd g e1
  | br p n a cc ih =>
    try dsimp only [Rep_e1, Rep_e2, Okt_e1, Okt_e2, OW_e1, OW_e2, WP_e1, WP_e2] at *
    rintro h lo hi x z ⟨h', e, n0, n1, r⟩ hr ho
    obtain ⟨s0, s1, s2, s3⟩ := slt_ok (n := n) (a := a) (key := key) n0
    rcases ho with ⟨e1, e2⟩ | e
    · rcases hr.2.2.2.2.1 with ⟨f, g⟩ | ⟨f, g⟩
      · exact Or.inl (e2.trans g)
      · exact absurd g e1
    · exact Or.inr (ih _ (r _ s0 s1).2.2 (hr.2.2.2.2.2 _ s0 s1).2 e)
/-- the way is found -/
theorem cc_find (k0 : -2147483648 ≤ key) (k1 : key < 2147483648) (o : Okt t h lo hi) (S : Sub (dC s) (q_g s 242 9) t x) (hr : q_g s 242 10 = x) (hN : q_g s 242 9 ≤ 176) (hh : h < 40) : ∃ u, EV (d + 1) 47 0 [.ref 242, .int (q_I (key)), .null, .null] [] (q_h L xs s O c) = some (.inl (some (.int (q_I (wyn (dC s) key t x h)))), q_h L xs (u) O c) ∧ dC u = dC s ∧ q_g u 242 8 = (h : Int) + 1 ∧ (∀ i : Nat, i ≤ h → q_g u 249 i = wyn (dC s) key t x i) ∧ (∀ i : Nat, i < h → q_g u 250 i = sln key t i) ∧ ∀ k z, k ≠ 249 → k ≠ 250 → ¬ (k = 242 ∧ z = 8) → u k z = s k z := by
  have eD : dC (q_u s 242 8 0) = dC s := dC_c (fun k k0 k1 => q_u_k (by omega))
  have g9 : q_g (q_u s 242 8 0) 242 9 = q_g s 242 9 := q_gu_ne (by omega)
  obtain ⟨u, u1, u2, u3, u4, u5, u6⟩ := cc_findL (d := d) (L := L) (xs := xs) (O := O) (c := c) (key := key) k0 k1 x 0 (q_u s 242 8 0) .null o (by rw [eD]; exact S.1) (by rw [eD, g9]; exact S.2.2) (by rw [g9]; exact hN) (by rw [q_gu_eq rfl]; rfl) (by omega) (by omega)
  rw [eD] at u1 u3
  refine ⟨u, ?_, dC_c (fun k a1 a2 => funext fun z => ?_), by rw [u2]; omega, fun i hi => ?_, fun i hi => ?_, fun k z h1 h2 h3 => by rw [u5 k z h1 h2 h3, q_u_n h3]⟩
  · rw [R_47_0, hr]
    exact u1
  · rw [u5 k z (by omega) (by omega) (by omega), q_u_n (by omega)]
  · have := u3 i hi
    rw [Int.zero_add] at this
    exact this
  · have := u4 i hi
    rw [Int.zero_add] at this
    exact this
/-- the way is new -/
theorem cc_ren (o : Okt t h lo hi) (S : Sub (dC s) (q_g s 242 9) t x) (hN : q_g s 242 9 ≤ 176) (hh : h < 40) (h8 : q_g s 242 8 = (h : Int) + 1) (hw : ∀ i : Nat, i ≤ h → q_g s 249 i = wyn (dC s) key t x i) (hl : LfC s Lf) : ∃ u, EV (d + 1) 51 0 [.ref 242, .null] [] (q_h L xs s O c) = some (.inl none, q_h L xs (u) O c) ∧ Sub (dC u) (q_g u 242 9) (ren key t) x ∧ LfC u (fun z => Lf z ∨ WP key t z) ∧ (∀ y, (dC u).K y = (dC s).K y ∧ (dC u).R y = (dC s).R y ∧ (dC u).A y = (dC s).A y ∧ (dC u).B y = (dC s).B y) ∧ (∀ k z, k ≠ 247 → k ≠ 248 → ¬ (k = 242 ∧ z = 11) → u k z = s k z) ∧ q_g u 242 11 = 1 := by
  have wi : ∀ i : Nat, i ≤ h → Wi (dC s) t x (wyn (dC s) key t x i) := fun i hi => OW_Wi o ((OW_wyn o).mpr ⟨i, hi, rfl⟩)
  obtain ⟨u, u1, u2, u3, u4, u5⟩ := cc_renewWay (d := d) (L := L) (xs := xs) (O := O) (c := c) h8 (by omega) (by omega) (fun i i0 i1 => by
    have := hw i.toNat (by omega)
    rw [show ((i.toNat : Nat) : Int) = i by omega] at this
    have := S.2.2 _ (wi i.toNat (by omega))
    omega)
  have onw : ∀ y, OW (dC s) key t x y → ∃ i, 0 ≤ i ∧ i < (h : Int) + 1 ∧ q_g s 249 i = y := fun y hy => by
    obtain ⟨i, i1, i2⟩ := (OW_wyn o).mp hy
    exact ⟨i, by omega, by omega, by rw [hw i i1, i2]⟩
  have now : ∀ i, 0 ≤ i → i < (h : Int) + 1 → OW (dC s) key t x (q_g s 249 i) := fun i i0 i1 => by
    have := hw i.toNat (by omega)
    rw [show ((i.toNat : Nat) : Int) = i by omega] at this
    exact (OW_wyn o).mpr ⟨i.toNat, by omega, this⟩
  have f1 : ∀ y, OW (dC s) key t x y → q_g u 247 y = 1 ∧ (y < 48 → q_g u 248 y = 1) := fun y hy => by
    obtain ⟨i, i0, i1, i2⟩ := onw y hy
    have := u2 i i0 i1
    rw [i2] at this
    exact this
  have f0 : ∀ y, ¬ OW (dC s) key t x y → q_g u 247 y = q_g s 247 y ∧ q_g u 248 y = q_g s 248 y := fun y hy => by
    obtain ⟨a1, a2⟩ := u3 y (fun i i0 i1 e => hy (e ▸ now i i0 i1))
    unfold q_g
    rw [a1, a2]
    exact ⟨rfl, rfl⟩
  have eK : ∀ y, (dC u).K y = (dC s).K y ∧ (dC u).R y = (dC s).R y ∧ (dC u).A y = (dC s).A y ∧ (dC u).B y = (dC s).B y := fun y => by
    have ug : ∀ k, k ≠ 247 → k ≠ 248 → k ≠ 242 → u k = s k := fun k h1 h2 h3 => funext fun z => u4 k z h1 h2 (by omega)
    unfold dC q_g
    simp only [ug 243 (by decide) (by decide) (by decide), ug 244 (by decide) (by decide) (by decide), ug 245 (by decide) (by decide) (by decide), ug 246 (by decide) (by decide) (by decide), and_self]
  obtain ⟨r1, r2, r3⟩ := ren_c (D' := dC u) (key := key) o S.1 S.2.1 eK (fun y hy => (f1 y hy).1) (fun y _ hy => (f0 y hy).1)
  have g9 : q_g u 242 9 = q_g s 242 9 := by
    show (u 242 9).toInt = _
    rw [u4 242 9 (by omega) (by omega) (by omega)]
    rfl
  refine ⟨u, u1, ⟨r1, r2, fun y hy => by rw [g9]; exact S.2.2 y ((r3 y).mp hy)⟩, ⟨fun z z0 z1 => ?_, fun z z0 z1 hz => ?_⟩, eK, u4, u5⟩
  · by_cases hy : OW (dC s) key t x z
    · have e1 := (f1 z hy).2 z1
      refine ⟨Or.inr e1, fun _ => ?_, fun _ => e1⟩
      rcases OW_WP o S.1 z0 hy with f | f
      · exact Or.inl (hl.2 z z0 z1 f)
      · exact Or.inr f
    · rw [(f0 z hy).2]
      refine ⟨(hl.1 z z0 z1).1, fun e => Or.inl ((hl.1 z z0 z1).2.mp e), fun e => ?_⟩
      rcases e with e | e
      · exact (hl.1 z z0 z1).2.mpr e
      · exact absurd (WP_OW o S.1 e) hy
  · by_cases hy : OW (dC s) key t x z
    · rcases OW_WP o S.1 z0 hy with f | f
      · exact Or.inl (hl.2 z z0 z1 f)
      · exact Or.inr f
    · rw [(f0 z hy).1] at hz
      exact Or.inl (hl.2 z z0 z1 hz)
end CRN
