/-! THE NEW TREE on the disk -/
noncomputable def plT (tq : Int → Int) : Tr → Int → Tr := tr_rec (fun p n a b k => .lf (if p = -1 then tq k else p) n a b) (fun p n a c r_ k => if p = -1 then .br (tq k) n a (fun j => r_ j (k + 1 + smz (fun i => cN (c i)) j.toNat)) else .br p n a c)
theorem plT_e1 (tq : Int → Int) (p n : Int) (a : Int → Int) (b : Int → Int) (k : Int) : plT tq (.lf p n a b) k = (.lf (if p = -1 then tq k else p) n a b) := rfl
theorem plT_e2 (tq : Int → Int) (p n : Int) (a : Int → Int) (c : Int → Tr) (k : Int) : plT tq (.br p n a c) k = (if p = -1 then .br (tq k) n a (fun j => plT tq (c j) (k + 1 + smz (fun i => cN (c i)) j.toNat)) else .br p n a c) := rfl
section NTR
variable {tq pl m x : Int → Int} {Wst Lv : Int → Prop}
theorem plT_sz : ∀ (t : Tr) (k : Int), tsz (plT tq t k) = tsz t ∧ tlst (plT tq t k) = tlst t := by
  intro t k
  cases t using Tr_cs with
  | lf p n a b =>
    exact ⟨rfl, rfl⟩
  | br p n a c =>
    try dsimp only [plT_e1, plT_e2]
    split <;> exact ⟨rfl, rfl⟩
theorem plT_ok : ∀ {t : Tr} {h : Nat} {lo hi : Int} (k : Int), Okt t h lo hi → Okt (plT tq t k) h lo hi := by
  intro t
  induction t using Tr_rc with
  | lf p n a b =>
    try dsimp only [Okt_e1, Okt_e2] at *
    exact fun k o => o
  | br p n a c ih =>
    try dsimp only [Okt_e1, Okt_e2] at *
    rintro h lo hi k ⟨h', e, n0, n4, r⟩
    try dsimp only [plT_e1, plT_e2]
    split
    · try dsimp only [Okt_e1, Okt_e2]
      refine ⟨h', e, n0, n4, fun j j0 j1 => ?_⟩
      obtain ⟨r1, r2, r3⟩ := r j j0 j1
      exact ⟨r1, (plT_sz _ _).2.trans r2, ih j _ r3⟩
    · exact ⟨h', e, n0, n4, r⟩
theorem PlN_good : ∀ {t : Tr} {h : Nat} {lo hi k : Int}, Okt t h lo hi → PlN tq pl t k → ∀ i, k ≤ i → i < k + cN t → (pl (16 * tq i) = 1 ∨ pl (16 * tq i) = 2) ∧ 1 ≤ pl (16 * tq i + 1) ∧ pl (16 * tq i + 1) ≤ 4 ∧ pl (16 * tq i + 3) = -1 := by
  intro t
  induction t using Tr_rc with
  | lf p n a b =>
    try dsimp only [Okt_e1, Okt_e2, PlN_e1, PlN_e2] at *
    intro h lo hi k o pn i i0 i1
    by_cases hp : p = -1
    · have ec : cN (.lf p n a b) = 1 := by
        rw [cN_e1]
        rw [if_pos hp]
      have e : i = k := by omega
      rw [e]
      obtain ⟨q1, q2, q3, q4⟩ := pn hp
      rw [q1, q2, q3]
      exact ⟨Or.inl rfl, o.2.1, o.2.2.1, rfl⟩
    · have ec : cN (.lf p n a b) = 0 := by
        rw [cN_e1]
        rw [if_neg hp]
      omega
  | br p n a c ih =>
    try dsimp only [Okt_e1, Okt_e2, PlN_e1, PlN_e2] at *
    rintro h lo hi k ⟨h', eh, n0, n4, r⟩ pn i i0 i1
    by_cases hp : p = -1
    · have ec : cN (.br p n a c) = 1 + smz (fun i => cN (c i)) n.toNat := by
        rw [cN_e2]
        rw [if_pos hp]
      obtain ⟨⟨q1, q2, q3, q4⟩, q5⟩ := pn hp
      by_cases e : i = k
      · rw [e, q1, q2, q3]
        exact ⟨Or.inr rfl, n0, n4, rfl⟩
      · obtain ⟨j, j0, j1, j2, j3⟩ := smz_find (f := fun i => cN (c i)) n.toNat (r := i - k - 1) (by omega) (by omega)
        exact ih j (r j j0 (by omega)).2.2 (q5 j j0 (by omega)) i (by omega) (by omega)
    · have ec : cN (.br p n a c) = 0 := by
        rw [cN_e2]
        rw [if_neg hp]
      omega
/-- an old part stands as it stood -/
theorem old_x (hx : ∀ p, 0 ≤ p → p < 48 → ¬ Wst p → ∀ w, 0 ≤ w → w < 16 → pg x p w = pg m p w) {t : Tr} {p : Int} (S : Sub (dk m) 48 t p) (hW : ∀ z, PG t z → ¬ Wst z) (r6 : ∀ z, 0 ≤ z → z < 48 → pg m z 1 ≤ 6) : Rep (dk x) t p ∧ (∀ y, Wi (dk x) t p y ↔ PG t y) ∧ Dis (dk x) t p := by
  have key : ∀ y, Wi (dk m) t p y ↔ PG t y := fun y => ⟨fun w => Wi_PG S.1 w rfl (by have := S.2.2 y w; omega), fun h => (PG_Wi S.1 h).1⟩
  obtain ⟨a1, a2, a3⟩ := Rep_frn (D := dk m) (D' := dk x) S.1 (fun y hy => by
    have yr := S.2.2 y hy
    have nw := hW y ((key y).mp hy)
    have e := fun w w0 w1 => hx y (by omega) (by omega) nw w w0 w1
    refine ⟨e 0 (by omega) (by omega), e 1 (by omega) (by omega), rfl, fun k k0 k1 => ?_⟩
    have k1 : k < pg m y 1 := k1
    have := r6 y (by omega) (by omega)
    exact ⟨e (4 + k) (by omega) (by omega), e (10 + k) (by omega) (by omega)⟩)
  exact ⟨a1, fun y => (a2 y).trans (key y), a3 S.2.1⟩
theorem new_x (hx : ∀ p, 0 ≤ p → p < 48 → ¬ Wst p → ∀ w, 0 ≤ w → w < 16 → pg x p w = pg m p w) (r6 : ∀ z, 0 ≤ z → z < 48 → pg m z 1 ≤ 6) {e : Int} (inj : ∀ i j, 0 ≤ i → i < e → 0 ≤ j → j < e → tq i = tq j → i = j) (hq : ∀ i, 0 ≤ i → i < e → Wst (tq i) ∧ ∀ w, 0 ≤ w → w < 16 → w ≠ 2 → pg x (tq i) w = pl (16 * tq i + w)) : ∀ {t : Tr} {h : Nat} {lo hi k : Int}, Okt t h lo hi → Old (dk m) t → DPg t → (∀ z, PG t z → ¬ Wst z) → PlN tq pl t k → 0 ≤ k → k + cN t ≤ e → Rep (dk x) (plT tq t k) (pgK tq t k) ∧ (∀ y, Wi (dk x) (plT tq t k) (pgK tq t k) y ↔ PG t y ∨ ∃ i, k ≤ i ∧ i < k + cN t ∧ y = tq i) ∧ Dis (dk x) (plT tq t k) (pgK tq t k) := by
  intro t
  induction t using Tr_rc with
  | lf p n a b =>
    try dsimp only [Rep_e1, Rep_e2, Wi_e1, Wi_e2, Dis_e1, Dis_e2, Okt_e1, Okt_e2, PG_e1, PG_e2, DPg_e1, DPg_e2, Old_e1, Old_e2, PlN_e1, PlN_e2] at *
    intro h lo hi k o od dp hW pn k0 ke
    by_cases hp : p = -1
    · have ec : cN (.lf p n a b) = 1 := by
        rw [cN_e1]
        rw [if_pos hp]
      rw [ec] at ke ⊢
      have eg : pgK tq (.lf p n a b) k = tq k := if_pos hp
      have et : plT tq (.lf p n a b) k = .lf (tq k) n a b := by
        show Tr.lf (if p = -1 then tq k else p) n a b = _
        rw [if_pos hp]
      rw [eg, et]
      obtain ⟨-, hc⟩ := hq k k0 (by omega)
      obtain ⟨q1, q2, q3, q4⟩ := pn hp
      have c0 := hc 0 (by omega) (by omega) (by omega)
      rw [Int.add_zero] at c0
      try dsimp only [Rep_e1, Rep_e2, Wi_e1, Wi_e2, Dis_e1, Dis_e2, Okt_e1, Okt_e2, PG_e1, PG_e2, DPg_e1, DPg_e2, Old_e1, Old_e2, PlN_e1, PlN_e2]
      refine ⟨⟨c0.trans q1, (hc 1 (by omega) (by omega) (by omega)).trans q2, by have := o.2.1; omega, by have := o.2.2.1; omega, Or.inl ⟨rfl, rfl⟩, fun i i0 i1 => ?_⟩, fun y => ?_, trivial⟩
      · have n4 := o.2.2.1
        obtain ⟨b1, b2⟩ := q4 i i0 i1
        exact ⟨(hc (4 + i) (by omega) (by omega) (by omega)).trans b1, (hc (10 + i) (by omega) (by omega) (by omega)).trans b2⟩
      · constructor
        · intro w
          exact Or.inr ⟨k, by omega, by omega, w⟩
        · rintro (w | ⟨i, i0, i1, w⟩)
          · exact absurd hp w.1
          · have : i = k := by omega
            rw [this] at w
            exact w
    · have ec : cN (.lf p n a b) = 0 := by
        rw [cN_e1]
        rw [if_neg hp]
      rw [ec]
      have eg : pgK tq (.lf p n a b) k = p := if_neg hp
      have et : plT tq (.lf p n a b) k = .lf p n a b := by
        show Tr.lf (if p = -1 then tq k else p) n a b = _
        rw [if_neg hp]
      rw [eg, et]
      rcases od with od | od
      · exact absurd od hp
      · obtain ⟨a1, a2, a3⟩ := old_x hx od hW r6
        exact ⟨a1, fun y => (a2 y).trans ⟨Or.inl, fun w => w.elim id (fun ⟨i, i0, i1, _⟩ => by omega)⟩, a3⟩
  | br p n a c ih =>
    try dsimp only [Rep_e1, Rep_e2, Wi_e1, Wi_e2, Dis_e1, Dis_e2, Okt_e1, Okt_e2, PG_e1, PG_e2, DPg_e1, DPg_e2, Old_e1, Old_e2, PlN_e1, PlN_e2] at *
    intro h lo hi k o od dp hW pn k0 ke
    by_cases hp : p = -1
    · have ec : cN (.br p n a c) = 1 + smz (fun i => cN (c i)) n.toNat := by
        rw [cN_e2]
        rw [if_pos hp]
      rw [ec] at ke ⊢
      have eg : pgK tq (.br p n a c) k = tq k := if_pos hp
      have et : plT tq (.br p n a c) k = .br (tq k) n a (fun j => plT tq (c j) (k + 1 + smz (fun i => cN (c i)) j.toNat)) := by
        rw [plT_e2]
        rw [if_pos hp]
      rw [eg, et]
      have s0 := smz_0 (f := fun k => cN (c k)) (n := n.toNat) (fun k _ _ => cN_0 (c k))
      obtain ⟨hwk, hc⟩ := hq k k0 (by omega)
      obtain ⟨⟨q1, q2, q3, q4⟩, q5⟩ := pn hp
      obtain ⟨h', eh, n0, n4, r⟩ := o
      have oc : ∀ j, 0 ≤ j → j < n → Old (dk m) (c j) := fun j j0 j1 => Old_kid (fun _ => rfl) od j0 j1
      have kid : ∀ j, 0 ≤ j → j < n → pg x (tq k) (10 + j) = pgK tq (c j) (k + 1 + smz (fun i => cN (c i)) j.toNat) ∧ Rep (dk x) (plT tq (c j) (k + 1 + smz (fun i => cN (c i)) j.toNat)) (pg x (tq k) (10 + j)) ∧ (∀ y, Wi (dk x) (plT tq (c j) (k + 1 + smz (fun i => cN (c i)) j.toNat)) (pg x (tq k) (10 + j)) y ↔ PG (c j) y ∨ ∃ i, k + 1 + smz (fun i => cN (c i)) j.toNat ≤ i ∧ i < k + 1 + smz (fun i => cN (c i)) j.toNat + cN (c j) ∧ y = tq i) ∧ Dis (dk x) (plT tq (c j) (k + 1 + smz (fun i => cN (c i)) j.toNat)) (pg x (tq k) (10 + j)) := fun j j0 j1 => by
        have ol := off_le (c := c) (n := n) j0 j1
        have eb : pg x (tq k) (10 + j) = pgK tq (c j) (k + 1 + smz (fun i => cN (c i)) j.toNat) := (hc (10 + j) (by omega) (by omega) (by omega)).trans (q4 j j0 j1).2
        obtain ⟨i1, i2, i3⟩ := ih j (r j j0 j1).2.2 (oc j j0 j1) (dp j j0 j1).1 (fun z hz => hW z (Or.inr ⟨j, j0, j1, hz⟩)) (q5 j j0 j1) (by omega) (by omega)
        rw [eb]
        exact ⟨rfl, i1, i2, i3⟩
      have c0 := hc 0 (by omega) (by omega) (by omega)
      rw [Int.add_zero] at c0
      try dsimp only [Rep_e1, Rep_e2, Wi_e1, Wi_e2, Dis_e1, Dis_e2, Okt_e1, Okt_e2, PG_e1, PG_e2, DPg_e1, DPg_e2, Old_e1, Old_e2, PlN_e1, PlN_e2]
      refine ⟨⟨c0.trans q1, (hc 1 (by omega) (by omega) (by omega)).trans q2, by omega, by omega, Or.inl ⟨rfl, rfl⟩, fun i i0 i1 => ⟨(hc (4 + i) (by omega) (by omega) (by omega)).trans (q4 i i0 i1).1, (kid i i0 i1).2.1⟩⟩, fun y => ?_, fun j j0 j1 => ?_⟩
      · constructor
        · rintro (w | ⟨j, j0, j1, w⟩)
          · exact Or.inr ⟨k, by omega, by omega, w⟩
          · have ol := off_le (c := c) (n := n) j0 j1
            rcases ((kid j j0 j1).2.2.1 y).mp w with g | ⟨i, i0, i1, g⟩
            · exact Or.inl (Or.inr ⟨j, j0, j1, g⟩)
            · exact Or.inr ⟨i, by omega, by omega, g⟩
        · rintro (w | ⟨i, i0, i1, w⟩)
          · rcases w with g | ⟨j, j0, j1, g⟩
            · exact absurd hp g.1
            · exact Or.inr ⟨j, j0, j1, ((kid j j0 j1).2.2.1 y).mpr (Or.inl g)⟩
          · by_cases e : i = k
            · rw [e] at w
              exact Or.inl w
            · obtain ⟨j, j0, j1, j2, j3⟩ := smz_find (f := fun i => cN (c i)) n.toNat (r := i - k - 1) (by omega) (by omega)
              exact Or.inr ⟨j, j0, by omega, ((kid j j0 (by omega)).2.2.1 y).mpr (Or.inr ⟨i, by omega, by omega, w⟩)⟩
      · have ol := off_le (c := c) (n := n) j0 j1
        try dsimp only [Rep_e1, Rep_e2, Wi_e1, Wi_e2, Dis_e1, Dis_e2, Okt_e1, Okt_e2, PG_e1, PG_e2, DPg_e1, DPg_e2, Old_e1, Old_e2, PlN_e1, PlN_e2]
        refine ⟨(kid j j0 j1).2.2.2, fun w => ?_, fun j' j0' j1' ne y w w' => ?_⟩
        · rcases ((kid j j0 j1).2.2.1 _).mp w with g | ⟨i, i0, i1, g⟩
          · exact hW _ (Or.inr ⟨j, j0, j1, g⟩) hwk
          · have := inj k i k0 (by omega) (by omega) (by omega) g
            omega
        · have ol' := off_le (c := c) (n := n) j0' j1'
          rcases ((kid j j0 j1).2.2.1 _).mp w with g | ⟨i, i0, i1, g⟩ <;> rcases ((kid j' j0' j1').2.2.1 _).mp w' with g' | ⟨i', i0', i1', g'⟩
          · exact (dp j j0 j1).2.2 j' j0' j1' ne y g g'
          · exact hW y (Or.inr ⟨j, j0, j1, g⟩) (by rw [g']; exact (hq i' (by omega) (by omega)).1)
          · exact hW y (Or.inr ⟨j', j0', j1', g'⟩) (by rw [g]; exact (hq i (by omega) (by omega)).1)
          · have e := inj i i' (by omega) (by omega) (by omega) (by omega) (g.symm.trans g')
            subst e
            rcases Int.lt_trichotomy j j' with q | q | q
            · have := off_le (c := c) (n := j') j0 q
              omega
            · exact ne q
            · have := off_le (c := c) (n := j) j0' q
              omega
    · have ec : cN (.br p n a c) = 0 := by
        rw [cN_e2]
        rw [if_neg hp]
      rw [ec]
      have eg : pgK tq (.br p n a c) k = p := if_neg hp
      have et : plT tq (.br p n a c) k = .br p n a c := by
        rw [plT_e2]
        rw [if_neg hp]
      rw [eg, et]
      rcases od with ⟨-, od⟩ | ⟨od, -⟩
      · obtain ⟨a1, a2, a3⟩ := old_x hx od hW r6
        exact ⟨a1, fun y => (a2 y).trans ⟨Or.inl, fun w => w.elim id (fun ⟨i, i0, i1, _⟩ => by omega)⟩, a3⟩
      · exact absurd od hp
end NTR
