/-! TREES off the disk: what they are, apart from where they stand -/
noncomputable def tsz : Tr → Int := tr_rec (fun u0_ n u1_ u2_ => n) (fun u0_ n u1_ u2_ r_  => n)
theorem tsz_e1 (u0_ n : Int) (u1_ : Int → Int) (u2_ : Int → Int) : tsz (.lf u0_ n u1_ u2_) = (n) := rfl
theorem tsz_e2 (u0_ n : Int) (u1_ : Int → Int) (u2_ : Int → Tr) : tsz (.br u0_ n u1_ u2_) = (n) := rfl
noncomputable def tlst : Tr → Int := tr_rec (fun u0_ u1_ a u2_ => a 0) (fun u0_ u1_ a u2_ r_  => a 0)
theorem tlst_e1 (u0_ u1_ : Int) (a : Int → Int) (u2_ : Int → Int) : tlst (.lf u0_ u1_ a u2_) = (a 0) := rfl
theorem tlst_e2 (u0_ u1_ : Int) (a : Int → Int) (u2_ : Int → Tr) : tlst (.br u0_ u1_ a u2_) = (a 0) := rfl
noncomputable def tpg : Tr → Int := tr_rec (fun p u0_ u1_ u2_ => p) (fun p u0_ u1_ u2_ r_  => p)
theorem tpg_e1 (p u0_ : Int) (u1_ : Int → Int) (u2_ : Int → Int) : tpg (.lf p u0_ u1_ u2_) = (p) := rfl
theorem tpg_e2 (p u0_ : Int) (u1_ : Int → Int) (u2_ : Int → Tr) : tpg (.br p u0_ u1_ u2_) = (p) := rfl
noncomputable def up {α : Type} (f : Int → α) (j : Int) (v : α) : Int → α := fun k => if k = j then v else f k
noncomputable def inz {α : Type} (f : Int → α) (j : Int) (v : α) : Int → α := fun k => if k < j then f k else if k = j then v else f (k - 1)
noncomputable def dlz {α : Type} (f : Int → α) (j : Int) : Int → α := fun k => if k < j then f k else f (k + 1)
/-- rows of nodes: kinds, how many, keys, values or children; which are new -/
abbrev Ar : Type := (Int → Int) × (Int → Int) × (Int → Int → Int) × (Int → Int → Int) × (Int → Int)
abbrev Ar.K (D : Ar) : Int → Int := D.1
abbrev Ar.R (D : Ar) : Int → Int := D.2.1
abbrev Ar.A (D : Ar) : Int → Int → Int := D.2.2.1
abbrev Ar.B (D : Ar) : Int → Int → Int := D.2.2.2.1
abbrev Ar.fr (D : Ar) : Int → Int := D.2.2.2.2
noncomputable def Pgs (D : Ar) (x p : Int) : Prop := D.fr x = 0 ∧ p = x ∨ D.fr x = 1 ∧ p = -1
/-- a node and all beneath it are such a tree -/
noncomputable def Rep (D : Ar) : Tr → Int → Prop := tr_rec (fun p n a b x => D.K x = 1 ∧ D.R x = n ∧ 0 ≤ n ∧ n ≤ 5 ∧ Pgs D x p ∧ ∀ k, 0 ≤ k → k < n → D.A x k = a k ∧ D.B x k = b k) (fun p n a c r_ x => D.K x = 2 ∧ D.R x = n ∧ 0 ≤ n ∧ n ≤ 5 ∧ Pgs D x p ∧ ∀ k, 0 ≤ k → k < n → D.A x k = a k ∧ r_ k (D.B x k))
theorem Rep_e1 (D : Ar) (p n : Int) (a : Int → Int) (b : Int → Int) (x : Int) : Rep D (.lf p n a b) x = (D.K x = 1 ∧ D.R x = n ∧ 0 ≤ n ∧ n ≤ 5 ∧ Pgs D x p ∧ ∀ k, 0 ≤ k → k < n → D.A x k = a k ∧ D.B x k = b k) := rfl
theorem Rep_e2 (D : Ar) (p n : Int) (a : Int → Int) (c : Int → Tr) (x : Int) : Rep D (.br p n a c) x = (D.K x = 2 ∧ D.R x = n ∧ 0 ≤ n ∧ n ≤ 5 ∧ Pgs D x p ∧ ∀ k, 0 ≤ k → k < n → D.A x k = a k ∧ Rep D (c k) (D.B x k)) := rfl
/-- a node is one of them -/
noncomputable def Wi (D : Ar) : Tr → Int → Int → Prop := tr_rec (fun u0_ u1_ u2_ u3_ x y => y = x) (fun u0_ n u1_ c r_ x y => y = x ∨ ∃ k, 0 ≤ k ∧ k < n ∧ r_ k (D.B x k) y)
theorem Wi_e1 (D : Ar) (u0_ u1_ : Int) (u2_ : Int → Int) (u3_ : Int → Int) (x : Int) (y : Int) : Wi D (.lf u0_ u1_ u2_ u3_) x y = (y = x) := rfl
theorem Wi_e2 (D : Ar) (u0_ n : Int) (u1_ : Int → Int) (c : Int → Tr) (x : Int) (y : Int) : Wi D (.br u0_ n u1_ c) x y = (y = x ∨ ∃ k, 0 ≤ k ∧ k < n ∧ Wi D (c k) (D.B x k) y) := rfl
/-- none of them stands at two places -/
noncomputable def Dis (D : Ar) : Tr → Int → Prop := tr_rec (fun u0_ u1_ u2_ u3_ v0_ => True) (fun u0_ n u1_ c r_ x => ∀ k, 0 ≤ k → k < n → r_ k (D.B x k) ∧ ¬ Wi D (c k) (D.B x k) x ∧ ∀ k', 0 ≤ k' → k' < n → k ≠ k' → ∀ y, Wi D (c k) (D.B x k) y → ¬ Wi D (c k') (D.B x k') y)
theorem Dis_e1 (D : Ar) (u0_ u1_ : Int) (u2_ : Int → Int) (u3_ : Int → Int) (v0_ : Int) : Dis D (.lf u0_ u1_ u2_ u3_) v0_ = (True) := rfl
theorem Dis_e2 (D : Ar) (u0_ n : Int) (u1_ : Int → Int) (c : Int → Tr) (x : Int) : Dis D (.br u0_ n u1_ c) x = (∀ k, 0 ≤ k → k < n → Dis D (c k) (D.B x k) ∧ ¬ Wi D (c k) (D.B x k) x ∧ ∀ k', 0 ≤ k' → k' < n → k ≠ k' → ∀ y, Wi D (c k) (D.B x k) y → ¬ Wi D (c k') (D.B x k') y) := rfl
/-- a row is as it was -/
noncomputable def Row (D D' : Ar) (y : Int) : Prop := D'.K y = D.K y ∧ D'.R y = D.R y ∧ D'.fr y = D.fr y ∧ ∀ k, 0 ≤ k → k < 6 → D'.A y k = D.A y k ∧ D'.B y k = D.B y k
section TRE
variable {D D' D2 : Ar} {t : Tr} {x y : Int}
theorem Row_refl : Row D D y := ⟨rfl, rfl, rfl, fun _ _ _ => ⟨rfl, rfl⟩⟩
theorem Row_trans (h : Row D D' y) (h' : Row D' D2 y) : Row D D2 y := ⟨h'.1.trans h.1, h'.2.1.trans h.2.1, h'.2.2.1.trans h.2.2.1, fun k k0 k1 => ⟨(h'.2.2.2 k k0 k1).1.trans (h.2.2.2 k k0 k1).1, (h'.2.2.2 k k0 k1).2.trans (h.2.2.2 k k0 k1).2⟩⟩
theorem Wi_self (D : Ar) (t : Tr) (x : Int) : Wi D t x x := by
  cases t using Tr_cs
  · rfl
  · exact Or.inl rfl
theorem Rep_sz (h : Rep D t x) : D.R x = tsz t ∧ 0 ≤ tsz t ∧ tsz t ≤ 5 := by
  cases t using Tr_cs <;> exact ⟨h.2.1, h.2.2.1, h.2.2.2.1⟩
theorem Rep_pg (h : Rep D t x) : Pgs D x (tpg t) := by
  cases t using Tr_cs <;> exact h.2.2.2.2.1
theorem Rep_lst (h : Rep D t x) (hn : 1 ≤ tsz t) : D.A x 0 = tlst t := by
  cases t using Tr_cs <;> exact (h.2.2.2.2.2 0 (by omega) (by show 0 < _; exact hn)).1
theorem Rep_br {p n : Int} {a : Int → Int} {cc : Int → Tr} (h : Rep D (.br p n a cc) x) {k : Int} (k0 : 0 ≤ k) (k1 : k < n) : D.A x k = a k ∧ Rep D (cc k) (D.B x k) := h.2.2.2.2.2 k k0 k1
/-- what is beneath is all that matters -/
theorem Rep_fr : ∀ {t : Tr} {x : Int}, Rep D t x → (∀ y, Wi D t x y → Row D D' y) → Rep D' t x ∧ (∀ y, Wi D' t x y ↔ Wi D t x y) ∧ (Dis D t x → Dis D' t x) := by
  intro t
  induction t using Tr_rc with
  | lf p n a b =>
    try dsimp only [Rep_e1, Rep_e2, Wi_e1, Wi_e2, Dis_e1, Dis_e2] at *
    intro x h hr
    obtain ⟨h1, h2, h3, h4, h5, h6⟩ := h
    obtain ⟨r1, r2, r3, r4⟩ := hr x rfl
    refine ⟨⟨r1.trans h1, r2.trans h2, h3, h4, ?_, fun k k0 k1 => ?_⟩, fun y => Iff.rfl, fun _ => trivial⟩
    · unfold Pgs at *
      rw [r3]
      exact h5
    · obtain ⟨e1, e2⟩ := r4 k k0 (by omega)
      rw [e1, e2]
      exact h6 k k0 k1
  | br p n a cc ih =>
    try dsimp only [Rep_e1, Rep_e2, Wi_e1, Wi_e2, Dis_e1, Dis_e2] at *
    intro x h hr
    obtain ⟨h1, h2, h3, h4, h5, h6⟩ := h
    obtain ⟨r1, r2, r3, r4⟩ := hr x (Or.inl rfl)
    have key : ∀ k, 0 ≤ k → k < n → D'.B x k = D.B x k ∧ D'.A x k = D.A x k ∧ Rep D' (cc k) (D.B x k) ∧ (∀ y, Wi D' (cc k) (D.B x k) y ↔ Wi D (cc k) (D.B x k) y) ∧ (Dis D (cc k) (D.B x k) → Dis D' (cc k) (D.B x k)) := fun k k0 k1 => by
      obtain ⟨e1, e2⟩ := r4 k k0 (by omega)
      obtain ⟨q1, q2, q3⟩ := ih k (h6 k k0 k1).2 (fun y hy => hr y (Or.inr ⟨k, k0, k1, hy⟩))
      exact ⟨e2, e1, q1, q2, q3⟩
    refine ⟨⟨r1.trans h1, r2.trans h2, h3, h4, ?_, fun k k0 k1 => ?_⟩, fun y => ?_, fun hd k k0 k1 => ?_⟩
    · unfold Pgs at *
      rw [r3]
      exact h5
    · obtain ⟨e1, e2, e3, e4, e5⟩ := key k k0 k1
      rw [e1, e2]
      exact ⟨(h6 k k0 k1).1, e3⟩
    · constructor
      · rintro (e | ⟨k, k0, k1, hw⟩)
        · exact Or.inl e
        · obtain ⟨e1, e2, e3, e4, e5⟩ := key k k0 k1
          rw [e1] at hw
          exact Or.inr ⟨k, k0, k1, (e4 y).mp hw⟩
      · rintro (e | ⟨k, k0, k1, hw⟩)
        · exact Or.inl e
        · obtain ⟨e1, e2, e3, e4, e5⟩ := key k k0 k1
          refine Or.inr ⟨k, k0, k1, ?_⟩
          rw [e1]
          exact (e4 y).mpr hw
    · obtain ⟨e1, e2, e3, e4, e5⟩ := key k k0 k1
      obtain ⟨d1, d2, d3⟩ := hd k k0 k1
      rw [e1]
      refine ⟨e5 d1, fun hw => d2 ((e4 x).mp hw), fun k' k0' k1' hk y hy => ?_⟩
      obtain ⟨f1, f2, f3, f4, f5⟩ := key k' k0' k1'
      rw [f1]
      exact fun hw => d3 k' k0' k1' hk y ((e4 y).mp hy) ((f4 y).mp hw)
end TRE
/-! places of keys -/
noncomputable def slF (n : Int) (a : Int → Int) (key : Int) : Nat → Int → Int
  | 0, k => k
  | f + 1, k => if k + 1 < n ∧ a (k + 1) ≤ key then slF n a key f (k + 1) else k
noncomputable def slt (n : Int) (a : Int → Int) (key : Int) : Int := slF n a key n.toNat 0
noncomputable def plF (n : Int) (a : Int → Int) (key : Int) : Nat → Int → Int
  | 0, k => k
  | f + 1, k => if k < n ∧ a k < key then plF n a key f (k + 1) else k
noncomputable def plz (n : Int) (a : Int → Int) (key : Int) : Int := plF n a key n.toNat 0
section PLC
variable {n key : Int} {a : Int → Int}
theorem slF_ok : ∀ (f : Nat) (k : Int), n - k ≤ f → 0 ≤ k → k < n → (k = 0 ∨ a k ≤ key) → 0 ≤ slF n a key f k ∧ slF n a key f k < n ∧ (slF n a key f k = 0 ∨ a (slF n a key f k) ≤ key) ∧ (slF n a key f k + 1 < n → key < a (slF n a key f k + 1))
  | 0, k, h, h0, h1, h2 => by omega
  | f + 1, k, h, h0, h1, h2 => by
    unfold slF
    by_cases c : k + 1 < n ∧ a (k + 1) ≤ key
    · rw [if_pos c]
      exact slF_ok f (k + 1) (by omega) (by omega) c.1 (Or.inr c.2)
    · rw [if_neg c]
      exact ⟨h0, h1, h2, fun x => by omega⟩
theorem slt_ok (hn : 1 ≤ n) : 0 ≤ slt n a key ∧ slt n a key < n ∧ (slt n a key = 0 ∨ a (slt n a key) ≤ key) ∧ (slt n a key + 1 < n → key < a (slt n a key + 1)) := slF_ok n.toNat 0 (by omega) (by omega) (by omega) (Or.inl rfl)
theorem plF_ok : ∀ (f : Nat) (k : Int), n - k ≤ f → 0 ≤ k → k ≤ n → (∀ i, 0 ≤ i → i < k → a i < key) → 0 ≤ plF n a key f k ∧ plF n a key f k ≤ n ∧ (∀ i, 0 ≤ i → i < plF n a key f k → a i < key) ∧ (plF n a key f k < n → key ≤ a (plF n a key f k))
  | 0, k, h, h0, h1, h2 => by
    unfold plF
    exact ⟨h0, h1, h2, fun x => by omega⟩
  | f + 1, k, h, h0, h1, h2 => by
    unfold plF
    by_cases c : k < n ∧ a k < key
    · rw [if_pos c]
      refine plF_ok f (k + 1) (by omega) (by omega) (by omega) (fun i i0 i1 => ?_)
      by_cases e : i = k
      · subst e
        exact c.2
      · exact h2 i i0 (by omega)
    · rw [if_neg c]
      exact ⟨h0, h1, h2, fun x => by omega⟩
theorem plz_ok (hn : 0 ≤ n) : 0 ≤ plz n a key ∧ plz n a key ≤ n ∧ (∀ i, 0 ≤ i → i < plz n a key → a i < key) ∧ (plz n a key < n → key ≤ a (plz n a key)) := plF_ok n.toNat 0 (by omega) (by omega) (by omega) (fun i i0 i1 => by omega)
end PLC
/-! trees that are right -/
noncomputable def OkL (n : Int) (a b : Int → Int) (lo hi : Int) : Prop := (∀ k, 0 ≤ k → k < n → lo ≤ a k ∧ a k < hi ∧ 0 ≤ b k ∧ b k < 100) ∧ ∀ k, 0 ≤ k → k + 1 < n → a k < a (k + 1)
noncomputable def Okt : Tr → Nat → Int → Int → Prop := tr_rec (fun u0_ n a b h lo hi => h = 0 ∧ 1 ≤ n ∧ n ≤ 4 ∧ OkL n a b lo hi) (fun u0_ n a c r_ h lo hi => ∃ h', h = h' + 1 ∧ 1 ≤ n ∧ n ≤ 4 ∧ ∀ k, 0 ≤ k → k < n → lo ≤ a k ∧ tlst (c k) = a k ∧ r_ k h' (a k) (if k + 1 < n then a (k + 1) else hi))
theorem Okt_e1 (u0_ n : Int) (a : Int → Int) (b : Int → Int) (h : Nat) (lo : Int) (hi : Int) : Okt (.lf u0_ n a b) h lo hi = (h = 0 ∧ 1 ≤ n ∧ n ≤ 4 ∧ OkL n a b lo hi) := rfl
theorem Okt_e2 (u0_ n : Int) (a : Int → Int) (c : Int → Tr) (h : Nat) (lo : Int) (hi : Int) : Okt (.br u0_ n a c) h lo hi = (∃ h', h = h' + 1 ∧ 1 ≤ n ∧ n ≤ 4 ∧ ∀ k, 0 ≤ k → k < n → lo ≤ a k ∧ tlst (c k) = a k ∧ Okt (c k) h' (a k) (if k + 1 < n then a (k + 1) else hi)) := rfl
/-- right but for how many rows the first node has -/
noncomputable def OkR : Tr → Nat → Int → Int → Prop := tr_rec (fun u0_ n a b h lo hi => h = 0 ∧ 0 ≤ n ∧ n ≤ 5 ∧ OkL n a b lo hi) (fun u0_ n a c r_ h lo hi => ∃ h', h = h' + 1 ∧ 0 ≤ n ∧ n ≤ 5 ∧ ∀ k, 0 ≤ k → k < n → lo ≤ a k ∧ tlst (c k) = a k ∧ Okt (c k) h' (a k) (if k + 1 < n then a (k + 1) else hi))
theorem OkR_e1 (u0_ n : Int) (a : Int → Int) (b : Int → Int) (h : Nat) (lo : Int) (hi : Int) : OkR (.lf u0_ n a b) h lo hi = (h = 0 ∧ 0 ≤ n ∧ n ≤ 5 ∧ OkL n a b lo hi) := rfl
theorem OkR_e2 (u0_ n : Int) (a : Int → Int) (c : Int → Tr) (h : Nat) (lo : Int) (hi : Int) : OkR (.br u0_ n a c) h lo hi = (∃ h', h = h' + 1 ∧ 0 ≤ n ∧ n ≤ 5 ∧ ∀ k, 0 ≤ k → k < n → lo ≤ a k ∧ tlst (c k) = a k ∧ Okt (c k) h' (a k) (if k + 1 < n then a (k + 1) else hi)) := rfl
section OKT
variable {t : Tr} {h : Nat} {lo hi lo' hi' : Int}
theorem Okt_R (o : Okt t h lo hi) : OkR t h lo hi ∧ 1 ≤ tsz t ∧ tsz t ≤ 4 := by
  cases t using Tr_cs with
  | lf p n a b =>
    try dsimp only [tsz_e1, tsz_e2, Okt_e1, Okt_e2, OkR_e1, OkR_e2] at *
    exact ⟨⟨o.1, by have := o.2.1; omega, by have := o.2.2.1; omega, o.2.2.2⟩, o.2.1, o.2.2.1⟩
  | br p n a c =>
    try dsimp only [tsz_e1, tsz_e2, Okt_e1, Okt_e2, OkR_e1, OkR_e2] at *
    obtain ⟨h', e, n0, n1, r⟩ := o
    exact ⟨⟨h', e, by omega, by omega, r⟩, n0, n1⟩
theorem OkR_t (o : OkR t h lo hi) (h0 : 1 ≤ tsz t) (h1 : tsz t ≤ 4) : Okt t h lo hi := by
  cases t using Tr_cs with
  | lf p n a b =>
    try dsimp only [tsz_e1, tsz_e2, Okt_e1, Okt_e2, OkR_e1, OkR_e2] at *
    exact ⟨o.1, h0, h1, o.2.2.2⟩
  | br p n a c =>
    try dsimp only [tsz_e1, tsz_e2, Okt_e1, Okt_e2, OkR_e1, OkR_e2] at *
    obtain ⟨h', e, n0, n1, r⟩ := o
    exact ⟨h', e, h0, h1, r⟩
theorem Okt_lst (o : Okt t h lo hi) : lo ≤ tlst t := by
  cases t using Tr_cs with
  | lf p n a b =>
    try dsimp only [tlst_e1, tlst_e2, Okt_e1, Okt_e2] at *
    exact (o.2.2.2.1 0 (by omega) (by have := o.2.1; omega)).1
  | br p n a c =>
    try dsimp only [tlst_e1, tlst_e2, Okt_e1, Okt_e2] at *
    obtain ⟨h', e, n0, n1, r⟩ := o
    exact (r 0 (by omega) (by omega)).1
theorem Okt_hi : ∀ {t : Tr} {h : Nat} {lo hi hi' : Int}, Okt t h lo hi → hi ≤ hi' → Okt t h lo hi' := by
  intro t
  induction t using Tr_rc with
  | lf p n a b =>
    try dsimp only [Okt_e1, Okt_e2] at *
    exact fun o x => ⟨o.1, o.2.1, o.2.2.1, fun k k0 k1 => by have := o.2.2.2.1 k k0 k1; omega, o.2.2.2.2⟩
  | br p n a c ih =>
    try dsimp only [Okt_e1, Okt_e2] at *
    rintro h lo hi hi' ⟨h', e, n0, n1, r⟩ x
    refine ⟨h', e, n0, n1, fun k k0 k1 => ?_⟩
    obtain ⟨r1, r2, r3⟩ := r k k0 k1
    refine ⟨r1, r2, ih k r3 ?_⟩
    split <;> omega
theorem Okt_lt : ∀ {t : Tr} {h : Nat} {lo hi : Int}, Okt t h lo hi → tlst t < hi := by
  intro t
  induction t using Tr_rc with
  | lf p n a b =>
    try dsimp only [tlst_e1, tlst_e2, Okt_e1, Okt_e2] at *
    exact fun o => (o.2.2.2.1 0 (by omega) (by have := o.2.1; omega)).2.1
  | br p n a c ih =>
    try dsimp only [tlst_e1, tlst_e2, Okt_e1, Okt_e2] at *
    rintro h lo hi ⟨h', e, n0, n1, r⟩
    have dn : ∀ m : Nat, (m : Int) < n → a (n - 1 - m) < hi := fun m => by
      induction m with
      | zero =>
        intro hm
        obtain ⟨r1, r2, r3⟩ := r (n - 1) (by omega) (by omega)
        have := ih (n - 1) r3
        rw [if_neg (by omega), r2] at this
        simpa using this
      | succ m im =>
        intro hm
        have i1 := im (by omega)
        obtain ⟨r1, r2, r3⟩ := r (n - 1 - ((m + 1 : Nat) : Int)) (by omega) (by omega)
        have := ih _ r3
        rw [if_pos (by omega), r2, show n - 1 - ((m + 1 : Nat) : Int) + 1 = n - 1 - m by omega] at this
        omega
    have := dn (n - 1).toNat (by omega)
    rw [show n - 1 - (((n - 1).toNat : Nat) : Int) = 0 by omega] at this
    exact this
/-- keys rise -/
theorem OkR_up {p n : Int} {a : Int → Int} {c : Int → Tr} (o : OkR (.br p n a c) h lo hi) {k : Int} (k0 : 0 ≤ k) (k1 : k + 1 < n) : a k < a (k + 1) := by
  rw [OkR_e2] at o
  obtain ⟨h', e, n0, n1, r⟩ := o
  obtain ⟨r1, r2, r3⟩ := r k k0 (by omega)
  rw [if_pos k1] at r3
  have := Okt_lt r3
  omega
theorem up_le {n : Int} {a : Int → Int} (u : ∀ k, 0 ≤ k → k + 1 < n → a k < a (k + 1)) {i k : Int} (i0 : 0 ≤ i) (ik : i ≤ k) (k1 : k < n) : a i ≤ a k := by
  have up0 : ∀ m : Nat, i + m < n → a i ≤ a (i + m) := fun m => by
    induction m with
    | zero => intro _; simp
    | succ m ih =>
      intro hm
      have := ih (by omega)
      have := u (i + m) (by omega) (by omega)
      rw [show i + ((m + 1 : Nat) : Int) = i + (m : Int) + 1 by omega]
      omega
  have := up0 (k - i).toNat (by omega)
  rw [show i + (((k - i).toNat : Nat) : Int) = k by omega] at this
  exact this
theorem Okt_lo (o : Okt t h lo hi) (x : lo' ≤ tlst t) : Okt t h lo' hi := by
  cases t using Tr_cs with
  | lf p n a b =>
    try dsimp only [tlst_e1, tlst_e2, Okt_e1, Okt_e2] at *
    have x' : lo' ≤ a 0 := x
    refine ⟨o.1, o.2.1, o.2.2.1, fun k k0 k1 => ?_, o.2.2.2.2⟩
    have := up_le o.2.2.2.2 (Int.le_refl 0) k0 k1
    have := o.2.2.2.1 k k0 k1
    omega
  | br p n a c =>
    try dsimp only [tlst_e1, tlst_e2, Okt_e1, Okt_e2] at *
    have x' : lo' ≤ a 0 := x
    have oR := (Okt_R (t := .br p n a c) o).1
    obtain ⟨h', e, n0, n1, r⟩ := o
    refine ⟨h', e, n0, n1, fun k k0 k1 => ?_⟩
    obtain ⟨r1, r2, r3⟩ := r k k0 k1
    have := up_le (fun k k0 k1 => OkR_up oR k0 k1) (Int.le_refl 0) k0 k1
    exact ⟨by omega, r2, r3⟩
end OKT
