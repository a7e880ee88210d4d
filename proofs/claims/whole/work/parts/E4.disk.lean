/-! TREES on the disk, as trees off it -/
noncomputable def dk (m : Int → Int) : Ar := ⟨fun p => pg m p 0, fun p => pg m p 1, fun p k => pg m p (4 + k), fun p k => pg m p (10 + k), fun _ => 0⟩
noncomputable def trM (m : Int → Int) : Nat → Int → Tr
  | 0, r => .lf r (pg m r 1) (fun k => pg m r (4 + k)) (fun k => pg m r (10 + k))
  | h + 1, r => .br r (pg m r 1) (fun k => pg m r (4 + k)) (fun k => trM m h (pg m r (10 + k)))
section DKT
variable {m : Int → Int} {top : Int} {Lv : Int → Prop} {ht : Int → Nat} {n : Nat} {r x y z : Int} {t : Tr} {h : Nat} {lo hi : Int}
theorem trM_wi : ∀ (h : Nat) (p q : Int), Wi (dk m) (trM m h p) p q ↔ Inn m h p q
  | 0, p, q => Iff.rfl
  | h + 1, p, q => by
    show (q = p ∨ ∃ k, 0 ≤ k ∧ k < pg m p 1 ∧ Wi (dk m) (trM m h (pg m p (10 + k))) (pg m p (10 + k)) q) ↔ (q = p ∨ ∃ k, 0 ≤ k ∧ k < pg m p 1 ∧ Inn m h (pg m p (10 + k)) q)
    constructor
    · rintro (e | ⟨k, k0, k1, w⟩)
      · exact Or.inl e
      · exact Or.inr ⟨k, k0, k1, (trM_wi h _ q).mp w⟩
    · rintro (e | ⟨k, k0, k1, w⟩)
      · exact Or.inl e
      · exact Or.inr ⟨k, k0, k1, (trM_wi h _ q).mpr w⟩
theorem trM_lst : ∀ (h : Nat) (p : Int), tlst (trM m h p) = pg m p 4
  | 0, p => rfl
  | h + 1, p => rfl
theorem trM_sz : ∀ (h : Nat) (p : Int), tsz (trM m h p) = pg m p 1
  | 0, p => rfl
  | h + 1, p => rfl
theorem trM_rep (T : TD m top Lv ht n r) : ∀ (h : Nat) {p : Int}, Lv p → ht p = h → Rep (dk m) (trM m h p) p
  | 0, p, hp, e => by
    have R := td_rng T hp
    show Rep (dk m) (.lf p (pg m p 1) (fun k => pg m p (4 + k)) (fun k => pg m p (10 + k))) p
    rw [Rep_e1]
    exact ⟨td_lk T hp e, rfl, by omega, by omega, Or.inl ⟨rfl, rfl⟩, fun k k0 k1 => ⟨rfl, rfl⟩⟩
  | h + 1, p, hp, e => by
    have R := td_rng T hp
    show Rep (dk m) (.br p (pg m p 1) (fun k => pg m p (4 + k)) (fun k => trM m h (pg m p (10 + k)))) p
    rw [Rep_e2]
    exact ⟨td_bk T hp (by omega), rfl, by omega, by omega, Or.inl ⟨rfl, rfl⟩, fun k k0 k1 => ⟨rfl, trM_rep T h (td_bc T hp (by omega) k0 k1).1 (by have := (td_bc T hp (by omega) k0 k1).2; omega)⟩⟩
theorem trM_dis (T : TD m top Lv ht n r) : ∀ (h : Nat) {p : Int}, Lv p → ht p = h → Dis (dk m) (trM m h p) p
  | 0, p, hp, e => trivial
  | h + 1, p, hp, e => fun k k0 k1 => by
    obtain ⟨c1, c2⟩ := td_bc T hp (by omega) k0 k1
    exact ⟨trM_dis T h c1 (by omega), fun w => td_nself T hp e k0 k1 ((trM_wi h _ _).mp w), fun k' k0' k1' hk y w w' => td_sib T hp e k0 k1 k0' k1' hk ((trM_wi h _ _).mp w) ((trM_wi h _ _).mp w')⟩
theorem trM_ok (T : TD m top Lv ht n r) {hb : Int → Int} (Od : Ordd (fun p => pg m p 1) (fun p k => pg m p (4 + k)) (fun p k => pg m p (10 + k)) Lv ht hb) : ∀ (h : Nat) {p : Int}, Lv p → ht p = h → Okt (trM m h p) h (pg m p 4) (hb p)
  | 0, p, hp, e => by
    have R := td_rng T hp
    obtain ⟨o1, o2⟩ := Od.2.1 p hp e
    try dsimp only at o1 o2
    show Okt (.lf p (pg m p 1) (fun k => pg m p (4 + k)) (fun k => pg m p (10 + k))) 0 _ _
    rw [Okt_e1]
    refine ⟨rfl, R.2.2.2.1, R.2.2.2.2, fun k k0 k1 => ?_, o1⟩
    have l1 := up_le (n := pg m p 1) (a := fun k => pg m p (4 + k)) o1 (Int.le_refl 0) k0 k1
    have l2 := up_le (n := pg m p 1) (a := fun k => pg m p (4 + k)) o1 k0 (show k ≤ pg m p 1 - 1 by omega) (by omega)
    have l3 := td_la T hp e k0 k1
    try dsimp only at l1 l2 ⊢
    have e0 : pg m p (4 + 0) = pg m p 4 := rfl
    omega
  | h + 1, p, hp, e => by
    have R := td_rng T hp
    obtain ⟨o1, o2⟩ := Od.2.2 p hp (by omega)
    try dsimp only at o1 o2
    have kid : ∀ k, 0 ≤ k → k < pg m p 1 → Okt (trM m h (pg m p (10 + k))) h (pg m p (4 + k)) (hb (pg m p (10 + k))) := fun k k0 k1 => by
      obtain ⟨c1, c2⟩ := td_bc T hp (by omega) k0 k1
      have := trM_ok T Od h c1 (by omega)
      rw [td_bl T hp (by omega) k0 k1]
      exact this
    have up0 : ∀ k, 0 ≤ k → k + 1 < pg m p 1 → pg m p (4 + k) < pg m p (4 + (k + 1)) := fun k k0 k1 => by
      have := Okt_lt (kid k k0 (by omega))
      rw [trM_lst, ← td_bl T hp (by omega) k0 (by omega)] at this
      have := o1 k k0 k1
      omega
    show Okt (.br p (pg m p 1) (fun k => pg m p (4 + k)) (fun k => trM m h (pg m p (10 + k)))) (h + 1) _ _
    rw [Okt_e2]
    refine ⟨h, rfl, R.2.2.2.1, R.2.2.2.2, fun k k0 k1 => ?_⟩
    have l1 := up_le (n := pg m p 1) (a := fun k => pg m p (4 + k)) up0 (Int.le_refl 0) k0 k1
    try dsimp only at l1 ⊢
    try dsimp only [Okt_e1, Okt_e2]
    refine ⟨l1, by rw [trM_lst, td_bl T hp (by omega) k0 k1], Okt_hi (kid k k0 k1) ?_⟩
    split
    · rename_i q
      exact o1 k k0 q
    · have : k = pg m p 1 - 1 := by omega
      rw [this]
      exact o2
theorem inn_kid (T : TD m top Lv ht n r) : ∀ (h : Nat) {p q k : Int}, Lv p → ht p = h → Inn m h p q → 0 < ht q → 0 ≤ k → k < pg m q 1 → Inn m h p (pg m q (10 + k))
  | 0, p, q, k, hp, e, i, hq, k0, k1 => by
    have : q = p := i
    subst this
    omega
  | h + 1, p, q, k, hp, e, i, hq, k0, k1 => by
    rcases i with e' | ⟨j, j0, j1, i⟩
    · subst e'
      exact Or.inr ⟨k, k0, k1, Inn_self h _⟩
    · obtain ⟨c1, c2⟩ := td_bc T hp (by omega) j0 j1
      exact Or.inr ⟨j, j0, j1, inn_kid T h c1 (by omega) i hq k0 k1⟩
theorem td_all (T : TD m top Lv ht n r) : ∀ (d : Nat) {q : Int}, Lv q → ht q + d = n → Inn m n r q
  | 0, q, hq, e => by
    rcases td_par T hq with e1 | ⟨p', k, a1, a2, a3, a4, a5⟩
    · subst e1
      exact Inn_self n _
    · have c := (td_bc T a1 a2 a3 a4).2
      rw [a5] at c
      have := td_rng T a1
      omega
  | d + 1, q, hq, e => by
    rcases td_par T hq with e1 | ⟨p', k, a1, a2, a3, a4, a5⟩
    · subst e1
      exact Inn_self n _
    · have c := (td_bc T a1 a2 a3 a4).2
      rw [a5] at c
      have i := td_all T d a1 (by omega)
      rw [← a5]
      exact inn_kid T n T.1.1 T.1.2 i a2 a3 a4
theorem TreeD_tr (T : TreeD m top Lv r) (hr : r ≠ -1) : ∃ t h, h ≤ 12 ∧ Sub (dk m) top t r ∧ Okt t h 0 100 ∧ (2 ≤ tsz t ∨ h = 0) ∧ ∀ q, Wi (dk m) t r q ↔ Lv q := by
  rcases T with ⟨e, -⟩ | ⟨n, ht, hb, hn, T, Od, h2⟩
  · exact absurd e hr
  · have T : TD m top Lv ht n r := T
    obtain ⟨r1, r2⟩ := T.1
    have w : ∀ q, Wi (dk m) (trM m n r) r q ↔ Lv q := fun q => by
      rw [trM_wi]
      constructor
      · exact fun i => (td_inn T n r1 r2 i).1
      · intro hq
        have := td_rng T hq
        exact td_all T (n - ht q) hq (by omega)
    have o := trM_ok T Od n r1 r2
    obtain ⟨o1, o2⟩ := Od.1 r r1
    try dsimp only [Wi_e1, Wi_e2, Okt_e1, Okt_e2]
    refine ⟨trM m n r, n, hn, ⟨trM_rep T n r1 r2, trM_dis T n r1 r2, fun q hq => ?_⟩, Okt_lo (Okt_hi o o1) (by rw [trM_lst]; exact o2), ?_, w⟩
    · have := td_rng T ((w q).mp hq)
      omega
    · by_cases c : n = 0
      · exact Or.inr c
      · refine Or.inl ?_
        rw [trM_sz]
        exact h2 (td_bk T r1 (by omega))
end DKT
/-! and back -/
noncomputable def hF (m : Int → Int) : Nat → Int → Nat
  | 0, _ => 0
  | f + 1, y => if pg m y 0 = 2 then hF m f (pg m y 10) + 1 else 0
noncomputable def kF (m : Int → Int) : Nat → Int → Int
  | 0, y => pg m y (4 + (pg m y 1 - 1)) + 1
  | f + 1, y => if pg m y 0 = 2 then kF m f (pg m y (10 + (pg m y 1 - 1))) else pg m y (4 + (pg m y 1 - 1)) + 1
noncomputable def lkT : Tr → Int := tr_rec (fun u0_ n a u1_ => a (n - 1) + 1) (fun u0_ n u1_ c r_  => r_ (n - 1))
theorem lkT_e1 (u0_ n : Int) (a : Int → Int) (u1_ : Int → Int) : lkT (.lf u0_ n a u1_) = (a (n - 1) + 1) := rfl
theorem lkT_e2 (u0_ n : Int) (u1_ : Int → Int) (c : Int → Tr) : lkT (.br u0_ n u1_ c) = (lkT (c (n - 1))) := rfl
section DKB
variable {m : Int → Int} {top : Int} {r x y z : Int} {t : Tr} {h : Nat} {lo hi : Int}
theorem hk_of : ∀ {t : Tr} {x : Int} {h : Nat} {lo hi : Int} (f : Nat), Rep (dk m) t x → Okt t h lo hi → h ≤ f → hF m f x = h ∧ kF m f x = lkT t := by
  intro t
  induction t using Tr_rc with
  | lf p n a b =>
    try dsimp only [Rep_e1, Rep_e2, Okt_e1, Okt_e2] at *
    intro x h lo hi f R o hf
    obtain ⟨r1, r2, r3, r4, r5, r6⟩ := R
    obtain ⟨o1, o2, o3, o4⟩ := o
    have r1 : pg m x 0 = 1 := r1
    have r2 : pg m x 1 = n := r2
    have e : pg m x (4 + (n - 1)) = a (n - 1) := (r6 (n - 1) (by omega) (by omega)).1
    subst o1
    cases f with
    | zero =>
      try dsimp only [Rep_e1, Rep_e2, Okt_e1, Okt_e2]
      refine ⟨rfl, ?_⟩
      show pg m x (4 + (pg m x 1 - 1)) + 1 = a (n - 1) + 1
      rw [r2, e]
    | succ f =>
      unfold hF kF
      rw [if_neg (by omega), if_neg (by omega), r2, e]
      exact ⟨rfl, rfl⟩
  | br p n a cc ih =>
    try dsimp only [Rep_e1, Rep_e2, Okt_e1, Okt_e2] at *
    rintro x h lo hi f R ⟨h', e, n0, n1, r⟩ hf
    obtain ⟨r1, r2, r3, r4, r5, r6⟩ := R
    have r1 : pg m x 0 = 2 := r1
    have r2 : pg m x 1 = n := r2
    cases f with
    | zero => omega
    | succ f =>
      unfold hF kF
      rw [if_pos r1, if_pos r1, r2]
      have a1 := (ih 0 f (r6 0 (by omega) (by omega)).2 (r 0 (by omega) (by omega)).2.2 (by omega)).1
      have a2 := (ih (n - 1) f (r6 (n - 1) (by omega) (by omega)).2 (r (n - 1) (by omega) (by omega)).2.2 (by omega)).2
      try dsimp only [Rep_e1, Rep_e2, Okt_e1, Okt_e2]
      refine ⟨?_, a2⟩
      have : hF m f (pg m x 10) = h' := a1
      omega
theorem lk_le : ∀ {t : Tr} {h : Nat} {lo hi : Int}, Okt t h lo hi → lkT t ≤ hi := by
  intro t
  induction t using Tr_rc with
  | lf p n a b =>
    try dsimp only [Okt_e1, Okt_e2] at *
    intro h lo hi o
    have := (o.2.2.2.1 (n - 1) (by have := o.2.1; omega) (by omega)).2.1
    show a (n - 1) + 1 ≤ hi
    omega
  | br p n a cc ih =>
    try dsimp only [Okt_e1, Okt_e2] at *
    rintro h lo hi ⟨h', e, n0, n1, r⟩
    have := ih (n - 1) (r (n - 1) (by omega) (by omega)).2.2
    rw [if_neg (by omega)] at this
    exact this
theorem Okt_kid {p n : Int} {a : Int → Int} {c : Int → Tr} (o : Okt (.br p n a c) h lo hi) {k : Int} (k0 : 0 ≤ k) (k1 : k < n) : ∃ h', h = h' + 1 ∧ Okt (c k) h' (a k) (if k + 1 < n then a (k + 1) else hi) ∧ lo ≤ a k ∧ (if k + 1 < n then a (k + 1) else hi) ≤ hi ∧ tlst (c k) = a k := by
  have oR := (Okt_R o).1
  rw [Okt_e2] at o
  obtain ⟨h', e, n0, n1, r⟩ := o
  obtain ⟨r1, r2, r3⟩ := r k k0 k1
  try dsimp only [Okt_e1, Okt_e2]
  refine ⟨h', e, r3, r1, ?_, r2⟩
  split
  · have l := up_le (n := n) (a := a) (fun k k0 k1 => OkR_up oR k0 k1) (show 0 ≤ k + 1 by omega) (show k + 1 ≤ n - 1 by omega) (by omega)
    obtain ⟨q1, q2, q3⟩ := r (n - 1) (by omega) (by omega)
    have := Okt_lt q3
    rw [if_neg (by omega), q2] at this
    omega
  · exact Int.le_refl _
theorem node_of : ∀ {t : Tr} {x : Int} {h : Nat} {lo hi : Int}, Rep (dk m) t x → Okt t h lo hi → Wi (dk m) t x y → ∃ ty hy loy hiy, Rep (dk m) ty y ∧ Okt ty hy loy hiy ∧ hy ≤ h ∧ lo ≤ loy ∧ hiy ≤ hi ∧ ∀ z, Wi (dk m) ty y z → Wi (dk m) t x z := by
  intro t
  induction t using Tr_rc with
  | lf p n a b =>
    try dsimp only [Rep_e1, Rep_e2, Wi_e1, Wi_e2, Okt_e1, Okt_e2] at *
    intro x h lo hi R o w
    have e : y = x := w
    subst e
    exact ⟨.lf p n a b, h, lo, hi, R, o, Nat.le_refl _, Int.le_refl _, Int.le_refl _, fun _ q => q⟩
  | br p n a cc ih =>
    try dsimp only [Rep_e1, Rep_e2, Wi_e1, Wi_e2, Okt_e1, Okt_e2] at *
    intro x h lo hi R o w
    rcases w with e | ⟨k, k0, k1, w⟩
    · subst e
      exact ⟨.br p n a cc, h, lo, hi, R, o, Nat.le_refl _, Int.le_refl _, Int.le_refl _, fun _ q => q⟩
    · obtain ⟨h', e, o1, o2, o3, o4⟩ := Okt_kid (p := p) (n := n) (a := a) (c := cc) o k0 k1
      obtain ⟨ty, hy, loy, hiy, i1, i2, i3, i4, i5, i6⟩ := ih k (R.2.2.2.2.2 _ k0 k1).2 o1 w
      exact ⟨ty, hy, loy, hiy, i1, i2, by omega, by omega, by omega, fun z q => Or.inr ⟨k, k0, k1, i6 z q⟩⟩
theorem par_of : ∀ {t : Tr} {x : Int}, Rep (dk m) t x → Wi (dk m) t x y → y = x ∨ ∃ p' k, Wi (dk m) t x p' ∧ pg m p' 0 = 2 ∧ 0 ≤ k ∧ k < pg m p' 1 ∧ pg m p' (10 + k) = y := by
  intro t
  induction t using Tr_rc with
  | lf p n a b =>
    try dsimp only [Rep_e1, Rep_e2, Wi_e1, Wi_e2] at *
    exact fun _ w => Or.inl w
  | br p n a cc ih =>
    try dsimp only [Rep_e1, Rep_e2, Wi_e1, Wi_e2] at *
    intro x R w
    rcases w with e | ⟨k, k0, k1, w⟩
    · exact Or.inl e
    · refine Or.inr ?_
      rcases ih k (R.2.2.2.2.2 _ k0 k1).2 w with e | ⟨p', j, a1, a2, a3, a4, a5⟩
      · exact ⟨x, k, Or.inl rfl, R.1, k0, by have := R.2.1; have : pg m x 1 = n := this; omega, e.symm⟩
      · exact ⟨p', j, Or.inr ⟨k, k0, k1, a1⟩, a2, a3, a4, a5⟩
/-- what is beneath one of the tree is of the tree -/
theorem Wi_kid : ∀ {t : Tr} {x : Int}, Rep (dk m) t x → Wi (dk m) t x y → pg m y 0 = 2 → ∀ k, 0 ≤ k → k < pg m y 1 → Wi (dk m) t x (pg m y (10 + k)) := by
  intro t
  induction t using Tr_rc with
  | lf p n a b =>
    try dsimp only [Rep_e1, Rep_e2, Wi_e1, Wi_e2] at *
    intro x R w hk
    have e : y = x := w
    subst e
    have := R.1
    have : pg m y 0 = 1 := this
    omega
  | br p n a cc ih =>
    try dsimp only [Rep_e1, Rep_e2, Wi_e1, Wi_e2] at *
    intro x R w hk k k0 k1
    rcases w with e | ⟨j, j0, j1, w⟩
    · subst e
      have : pg m y 1 = n := R.2.1
      exact Or.inr ⟨k, k0, by omega, Wi_self _ _ _⟩
    · exact Or.inr ⟨j, j0, j1, ih j (R.2.2.2.2.2 _ j0 j1).2 w hk k k0 k1⟩
theorem nself_of {p n : Int} {a : Int → Int} {c : Int → Tr} (R : Rep (dk m) t x) (d : Dis (dk m) t x) (w : Wi (dk m) t x y) (hk : pg m y 0 = 2) {k : Int} (k0 : 0 ≤ k) (k1 : k < pg m y 1) : pg m y (10 + k) ≠ x := by
  cases t using Tr_cs with
  | lf p n a b =>
    try dsimp only [Rep_e1, Rep_e2, Wi_e1, Wi_e2, Dis_e1, Dis_e2] at *
    have e : y = x := w
    subst e
    have := R.1
    have : pg m y 0 = 1 := this
    omega
  | br p n a cc =>
    try dsimp only [Rep_e1, Rep_e2, Wi_e1, Wi_e2, Dis_e1, Dis_e2] at *
    intro e
    rcases w with e' | ⟨j, j0, j1, w⟩
    · subst e'
      have : pg m y 1 = n := R.2.1
      refine (d k k0 (by omega)).2.1 ?_
      have := Wi_self (dk m) (cc k) (pg m y (10 + k))
      rw [e] at this
      show Wi (dk m) (cc k) (pg m y (10 + k)) y
      rw [e]
      exact this
    · refine (d j j0 j1).2.1 ?_
      have := Wi_kid (R.2.2.2.2.2 _ j0 j1).2 w hk k k0 k1
      rw [e] at this
      exact this
theorem un_of : ∀ {t : Tr} {x : Int}, Rep (dk m) t x → Dis (dk m) t x → ∀ {p p' k k' : Int}, Wi (dk m) t x p → Wi (dk m) t x p' → pg m p 0 = 2 → pg m p' 0 = 2 → 0 ≤ k → k < pg m p 1 → 0 ≤ k' → k' < pg m p' 1 → pg m p (10 + k) = pg m p' (10 + k') → p = p' ∧ k = k' := by
  intro t
  induction t using Tr_rc with
  | lf p n a b =>
    try dsimp only [Rep_e1, Rep_e2, Wi_e1, Wi_e2, Dis_e1, Dis_e2] at *
    intro x R d q q' k k' w w' h1
    have e : q = x := w
    subst e
    have := R.1
    have : pg m q 0 = 1 := this
    omega
  | br p n a cc ih =>
    try dsimp only [Rep_e1, Rep_e2, Wi_e1, Wi_e2, Dis_e1, Dis_e2] at *
    intro x R d q q' k k' w w' h1 h2 k0 k1 k0' k1' e
    have xn : pg m x 1 = n := R.2.1
    have same : ∀ (j : Int), 0 ≤ j → j < n → ∀ (i : Int), 0 ≤ i → i < n → ∀ z, Wi (dk m) (cc j) (pg m x (10 + j)) z → Wi (dk m) (cc i) (pg m x (10 + i)) z → j = i := fun j j0 j1 i i0 i1 z wj wi => Classical.byContradiction fun hne => (d j j0 j1).2.2 i i0 i1 hne z wj wi
    rcases w with e1 | ⟨j, j0, j1, w⟩
    · subst e1
      rcases w' with e2 | ⟨j', j0', j1', w'⟩
      · subst e2
        try dsimp only [Rep_e1, Rep_e2, Wi_e1, Wi_e2, Dis_e1, Dis_e2]
        refine ⟨rfl, same k k0 (by omega) k' k0' (by omega) _ (Wi_self _ _ _) ?_⟩
        rw [e]
        exact Wi_self _ _ _
      · exfalso
        have wk := Wi_kid (R.2.2.2.2.2 _ j0' j1').2 w' h2 k' k0' k1'
        rw [← e] at wk
        have ej := same k k0 (by omega) j' j0' j1' _ (Wi_self _ _ _) wk
        subst ej
        exact nself_of (p := p) (n := n) (a := a) (c := cc) (R.2.2.2.2.2 _ j0' j1').2 (d k j0' j1').1 w' h2 k0' k1' e.symm
    · have wk := Wi_kid (R.2.2.2.2.2 _ j0 j1).2 w h1 k k0 k1
      rcases w' with e2 | ⟨j', j0', j1', w'⟩
      · subst e2
        exfalso
        rw [e] at wk
        have ej := same k' k0' (by omega) j j0 j1 _ (Wi_self _ _ _) wk
        subst ej
        exact nself_of (p := p) (n := n) (a := a) (c := cc) (R.2.2.2.2.2 _ j0 j1).2 (d k' j0 j1).1 w h1 k0 k1 e
      · have wk' := Wi_kid (R.2.2.2.2.2 _ j0' j1').2 w' h2 k' k0' k1'
        rw [← e] at wk'
        have ej := same j j0 j1 j' j0' j1' _ wk wk'
        subst ej
        exact ih j (R.2.2.2.2.2 _ j0 j1).2 (d j j0 j1).1 w w' h1 h2 k0 k1 k0' k1' e
theorem TreeD_of (S : Sub (dk m) top t r) (o : Okt t h 0 100) (hh : h ≤ 12) (h2 : 2 ≤ tsz t ∨ h = 0) : TreeD m top (Wi (dk m) t r) r := by
  obtain ⟨R, d, rg⟩ := S
  have nd : ∀ p, Wi (dk m) t r p → ∃ ty loy hiy, Rep (dk m) ty p ∧ Okt ty (hF m 13 p) loy hiy ∧ hF m 13 p ≤ h ∧ 0 ≤ loy ∧ hiy ≤ 100 ∧ kF m 13 p = lkT ty := fun p w => by
    obtain ⟨ty, hy, loy, hiy, i1, i2, i3, i4, i5, i6⟩ := node_of R o w
    obtain ⟨e1, e2⟩ := hk_of 13 i1 i2 (by omega)
    rw [e1]
    exact ⟨ty, loy, hiy, i1, i2, i3, i4, i5, e2⟩
  have kd : ∀ p, Wi (dk m) t r p → (0 < hF m 13 p ↔ pg m p 0 = 2) := fun p w => by
    obtain ⟨ty, loy, hiy, i1, i2, i3, i4, i5, i6⟩ := nd p w
    cases ty using Tr_cs with
    | lf p' n a b =>
      try dsimp only [Rep_e1, Rep_e2, Wi_e1, Wi_e2, Okt_e1, Okt_e2] at *
      have e1 := i2.1
      have e2 : pg m p 0 = 1 := i1.1
      omega
    | br p' n a c =>
      try dsimp only [Rep_e1, Rep_e2, Wi_e1, Wi_e2, Okt_e1, Okt_e2] at *
      obtain ⟨h', e, -⟩ := i2
      have e2 : pg m p 0 = 2 := i1.1
      omega
  refine Or.inr ⟨h, hF m 13, kF m 13, hh, ⟨⟨Wi_self _ _ _, (hk_of 13 R o (by omega)).1⟩, fun p w => ?_, fun p w e => ?_, fun p w e => ?_, fun p p' k k' w w' e e' k0 k1 k0' k1' ee => un_of R d w w' ((kd p w).mp e) ((kd p' w').mp e') k0 k1 k0' k1' ee, fun p w => ?_⟩, ⟨fun p w => ?_, fun p w e => ?_, fun p w e => ?_⟩, fun e => ?_⟩
  · obtain ⟨ty, loy, hiy, i1, i2, i3, i4, i5, i6⟩ := nd p w
    have r2 := rg p w
    have sz := (Okt_R i2).2
    have e : pg m p 1 = tsz ty := (Rep_sz i1).1
    try dsimp only
    omega
  · obtain ⟨ty, loy, hiy, i1, i2, i3, i4, i5, i6⟩ := nd p w
    cases ty using Tr_cs with
    | lf p' n a b =>
      try dsimp only [Rep_e1, Rep_e2, Wi_e1, Wi_e2, Okt_e1, Okt_e2] at *
      have en : pg m p 1 = n := i1.2.1
      try dsimp only [Rep_e1, Rep_e2, Wi_e1, Wi_e2, Okt_e1, Okt_e2]
      refine ⟨i1.1, fun k k0 k1 => ?_⟩
      try dsimp only at k1 ⊢
      obtain ⟨q1, q2⟩ := i1.2.2.2.2.2 k k0 (by omega)
      have q1 : pg m p (4 + k) = a k := q1
      have q2 : pg m p (10 + k) = b k := q2
      have := i2.2.2.2.1 k k0 (by omega)
      omega
    | br p' n a c =>
      try dsimp only [Rep_e1, Rep_e2, Wi_e1, Wi_e2, Okt_e1, Okt_e2] at *
      obtain ⟨h', e', -⟩ := i2
      omega
  · obtain ⟨ty, loy, hiy, i1, i2, i3, i4, i5, i6⟩ := nd p w
    have k2 := (kd p w).mp e
    try dsimp only [Rep_e1, Rep_e2, Wi_e1, Wi_e2, Okt_e1, Okt_e2]
    refine ⟨k2, fun k k0 k1 => ?_⟩
    try dsimp only at k1 ⊢
    have wk := Wi_kid R w k2 k k0 k1
    try dsimp only [Rep_e1, Rep_e2, Wi_e1, Wi_e2, Okt_e1, Okt_e2]
    refine ⟨wk, ?_⟩
    cases ty using Tr_cs with
    | lf p' n a b =>
      try dsimp only [Rep_e1, Rep_e2, Wi_e1, Wi_e2, Okt_e1, Okt_e2] at *
      have := i2.1
      omega
    | br p' n a c =>
      try dsimp only [Rep_e1, Rep_e2, Wi_e1, Wi_e2, Okt_e1, Okt_e2] at *
      have en : pg m p 1 = n := i1.2.1
      obtain ⟨h', e1, o1, o2, o3, o4⟩ := Okt_kid (p := p') (n := n) (a := a) (c := c) i2 k0 (by omega)
      obtain ⟨q1, q2⟩ := i1.2.2.2.2.2 k k0 (show k < n by omega)
      have q1 : pg m p (4 + k) = a k := q1
      have q2 : Rep (dk m) (c k) (pg m p (10 + k)) := q2
      have e3 := (hk_of 13 q2 o1 (by omega)).1
      have e4 : pg m (pg m p (10 + k)) (4 + 0) = tlst (c k) := Rep_lst q2 (Okt_R o1).2.1
      exact ⟨by omega, by rw [q1, ← o4, e4]⟩
  · rcases par_of R w with e | ⟨p', k, a1, a2, a3, a4, a5⟩
    · exact Or.inl e
    · exact Or.inr ⟨p', k, a1, (kd p' a1).mpr a2, a3, a4, a5⟩
  · obtain ⟨ty, loy, hiy, i1, i2, i3, i4, i5, i6⟩ := nd p w
    have l1 := lk_le i2
    have l2 := Okt_lst i2
    have e4 : pg m p (4 + 0) = tlst ty := Rep_lst i1 (Okt_R i2).2.1
    try dsimp only [Rep_e1, Rep_e2, Wi_e1, Wi_e2, Okt_e1, Okt_e2]
    refine ⟨by omega, ?_⟩
    try dsimp only
    omega
  · obtain ⟨ty, loy, hiy, i1, i2, i3, i4, i5, i6⟩ := nd p w
    cases ty using Tr_cs with
    | lf p' n a b =>
      try dsimp only [Rep_e1, Rep_e2, Wi_e1, Wi_e2, Okt_e1, Okt_e2] at *
      have en : pg m p 1 = n := i1.2.1
      have hA : ∀ k, 0 ≤ k → k < n → pg m p (4 + k) = a k := fun k k0 k1 => (i1.2.2.2.2.2 k k0 k1).1
      have n1 := i2.2.1
      try dsimp only
      rw [en]
      try dsimp only [Rep_e1, Rep_e2, Wi_e1, Wi_e2, Okt_e1, Okt_e2]
      refine ⟨fun k k0 k1 => ?_, ?_⟩
      · rw [hA k k0 (by omega), hA (k + 1) (by omega) k1]
        exact i2.2.2.2.2 k k0 k1
      · rw [hA (n - 1) (by omega) (by omega), i6]
        show a (n - 1) < a (n - 1) + 1
        omega
    | br p' n a c =>
      try dsimp only [Rep_e1, Rep_e2, Wi_e1, Wi_e2, Okt_e1, Okt_e2] at *
      obtain ⟨h', e', -⟩ := i2
      omega
  · obtain ⟨ty, loy, hiy, i1, i2, i3, i4, i5, i6⟩ := nd p w
    cases ty using Tr_cs with
    | lf p' n a b =>
      try dsimp only [Rep_e1, Rep_e2, Wi_e1, Wi_e2, Okt_e1, Okt_e2] at *
      have := i2.1
      omega
    | br p' n a c =>
      try dsimp only [Rep_e1, Rep_e2, Wi_e1, Wi_e2, Okt_e1, Okt_e2] at *
      have en : pg m p 1 = n := i1.2.1
      have n1 := (Okt_R (t := .br p' n a c) i2).2.1
      have n1 : 1 ≤ n := n1
      have kk : ∀ k, 0 ≤ k → k < n → kF m 13 (pg m p (10 + k)) = lkT (c k) := fun k k0 k1 => by
        obtain ⟨h', e1, o1, o2, o3, o4⟩ := Okt_kid (p := p') (n := n) (a := a) (c := c) i2 k0 k1
        exact (hk_of 13 (i1.2.2.2.2.2 k k0 k1).2 o1 (by omega)).2
      try dsimp only
      rw [en]
      try dsimp only [Rep_e1, Rep_e2, Wi_e1, Wi_e2, Okt_e1, Okt_e2]
      refine ⟨fun k k0 k1 => ?_, ?_⟩
      · obtain ⟨h', e1, o1, o2, o3, o4⟩ := Okt_kid (p := p') (n := n) (a := a) (c := c) i2 k0 (show k < n by omega)
        have q1 : pg m p (4 + (k + 1)) = a (k + 1) := (i1.2.2.2.2.2 (k + 1) (show 0 ≤ k + 1 by omega) k1).1
        rw [kk k k0 (by omega), q1]
        have := lk_le o1
        rw [if_pos k1] at this
        exact this
      · rw [kk (n - 1) (by omega) (by omega), i6]
        exact Int.le_refl _
  · rcases h2 with q | q
    · have := (Rep_sz R).1
      have : pg m r 1 = tsz t := this
      omega
    · have := (hk_of 13 R o (by omega)).1
      have := (kd r (Wi_self _ _ _)).mpr e
      omega
end DKB
