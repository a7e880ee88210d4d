/-! TREES off the disk: what they are, apart from where they stand -/
inductive Tr where
  | lf (p n : Int) (a b : Int → Int)
  | br (p n : Int) (a : Int → Int) (c : Int → Tr)
def tsz : Tr → Int
  | .lf _ n _ _ => n
  | .br _ n _ _ => n
def tlst : Tr → Int
  | .lf _ _ a _ => a 0
  | .br _ _ a _ => a 0
def tpg : Tr → Int
  | .lf p _ _ _ => p
  | .br p _ _ _ => p
def up {α : Type} (f : Int → α) (j : Int) (v : α) : Int → α := fun k => if k = j then v else f k
def inz {α : Type} (f : Int → α) (j : Int) (v : α) : Int → α := fun k => if k < j then f k else if k = j then v else f (k - 1)
def dlz {α : Type} (f : Int → α) (j : Int) : Int → α := fun k => if k < j then f k else f (k + 1)
/-- rows of nodes: kinds, how many, keys, values or children; which are new -/
structure Ar where
  K : Int → Int
  R : Int → Int
  A : Int → Int → Int
  B : Int → Int → Int
  fr : Int → Int
def Pgs (D : Ar) (x p : Int) : Prop := D.fr x = 0 ∧ p = x ∨ D.fr x = 1 ∧ p = -1
/-- a node and all beneath it are such a tree -/
def Rep (D : Ar) : Tr → Int → Prop
  | .lf p n a b, x => D.K x = 1 ∧ D.R x = n ∧ 0 ≤ n ∧ n ≤ 5 ∧ Pgs D x p ∧ ∀ k, 0 ≤ k → k < n → D.A x k = a k ∧ D.B x k = b k
  | .br p n a c, x => D.K x = 2 ∧ D.R x = n ∧ 0 ≤ n ∧ n ≤ 5 ∧ Pgs D x p ∧ ∀ k, 0 ≤ k → k < n → D.A x k = a k ∧ Rep D (c k) (D.B x k)
/-- a node is one of them -/
def Wi (D : Ar) : Tr → Int → Int → Prop
  | .lf _ _ _ _, x, y => y = x
  | .br _ n _ c, x, y => y = x ∨ ∃ k, 0 ≤ k ∧ k < n ∧ Wi D (c k) (D.B x k) y
/-- none of them stands at two places -/
def Dis (D : Ar) : Tr → Int → Prop
  | .lf _ _ _ _, _ => True
  | .br _ n _ c, x => ∀ k, 0 ≤ k → k < n → Dis D (c k) (D.B x k) ∧ ¬ Wi D (c k) (D.B x k) x ∧ ∀ k', 0 ≤ k' → k' < n → k ≠ k' → ∀ y, Wi D (c k) (D.B x k) y → ¬ Wi D (c k') (D.B x k') y
/-- a row is as it was -/
def Row (D D' : Ar) (y : Int) : Prop := D'.K y = D.K y ∧ D'.R y = D.R y ∧ D'.fr y = D.fr y ∧ ∀ k, 0 ≤ k → k < 6 → D'.A y k = D.A y k ∧ D'.B y k = D.B y k
section TRE
variable {D D' D2 : Ar} {t : Tr} {x y : Int}
theorem Row_refl : Row D D y := ⟨rfl, rfl, rfl, fun _ _ _ => ⟨rfl, rfl⟩⟩
theorem Row_trans (h : Row D D' y) (h' : Row D' D2 y) : Row D D2 y := ⟨h'.1.trans h.1, h'.2.1.trans h.2.1, h'.2.2.1.trans h.2.2.1, fun k k0 k1 => ⟨(h'.2.2.2 k k0 k1).1.trans (h.2.2.2 k k0 k1).1, (h'.2.2.2 k k0 k1).2.trans (h.2.2.2 k k0 k1).2⟩⟩
theorem Wi_self (D : Ar) (t : Tr) (x : Int) : Wi D t x x := by
  cases t
  · rfl
  · exact Or.inl rfl
theorem Rep_sz (h : Rep D t x) : D.R x = tsz t ∧ 0 ≤ tsz t ∧ tsz t ≤ 5 := by
  cases t <;> exact ⟨h.2.1, h.2.2.1, h.2.2.2.1⟩
theorem Rep_pg (h : Rep D t x) : Pgs D x (tpg t) := by
  cases t <;> exact h.2.2.2.2.1
theorem Rep_lst (h : Rep D t x) (hn : 1 ≤ tsz t) : D.A x 0 = tlst t := by
  cases t <;> exact (h.2.2.2.2.2 0 (by omega) (by show 0 < _; exact hn)).1
theorem Rep_br {p n : Int} {a : Int → Int} {cc : Int → Tr} (h : Rep D (.br p n a cc) x) {k : Int} (k0 : 0 ≤ k) (k1 : k < n) : D.A x k = a k ∧ Rep D (cc k) (D.B x k) := h.2.2.2.2.2 k k0 k1
/-- what is beneath is all that matters -/
theorem Rep_fr : ∀ {t : Tr} {x : Int}, Rep D t x → (∀ y, Wi D t x y → Row D D' y) → Rep D' t x ∧ (∀ y, Wi D' t x y ↔ Wi D t x y) ∧ (Dis D t x → Dis D' t x) := by
  intro t
  induction t with
  | lf p n a b =>
    intro x h hr
    obtain ⟨h1, h2, h3, h4, h5, h6⟩ := h
    obtain ⟨r1, r2, r3, r4⟩ := hr x rfl
    refine ⟨⟨r1.trans h1, r2.trans h2, h3, h4, ?_, fun k k0 k1 => ?_⟩, fun y => Iff.rfl, fun _ => trivial⟩
    · unfold Pgs at *
      rw [r3]
      exact h5
    · obtain ⟨e1, e2⟩ := r4 k k0 (by omega)
      rw [e1, e2]
      exact h6 k k0 k1
  | br p n a cc ih =>
    intro x h hr
    obtain ⟨h1, h2, h3, h4, h5, h6⟩ := h
    obtain ⟨r1, r2, r3, r4⟩ := hr x (Or.inl rfl)
    have key : ∀ k, 0 ≤ k → k < n → D'.B x k = D.B x k ∧ D'.A x k = D.A x k ∧ Rep D' (cc k) (D.B x k) ∧ (∀ y, Wi D' (cc k) (D.B x k) y ↔ Wi D (cc k) (D.B x k) y) ∧ (Dis D (cc k) (D.B x k) → Dis D' (cc k) (D.B x k)) := fun k k0 k1 => by
      obtain ⟨e1, e2⟩ := r4 k k0 (by omega)
      obtain ⟨q1, q2, q3⟩ := ih k (h6 k k0 k1).2 (fun y hy => hr y (Or.inr ⟨k, k0, k1, hy⟩))
      exact ⟨e2, e1, q1, q2, q3⟩
    refine ⟨⟨r1.trans h1, r2.trans h2, h3, h4, ?_, fun k k0 k1 => ?_⟩, fun y => ?_, fun hd k k0 k1 => ?_⟩
    · unfold Pgs at *
      rw [r3]
      exact h5
    · obtain ⟨e1, e2, e3, e4, e5⟩ := key k k0 k1
      rw [e1, e2]
      exact ⟨(h6 k k0 k1).1, e3⟩
    · constructor
      · rintro (e | ⟨k, k0, k1, hw⟩)
        · exact Or.inl e
        · obtain ⟨e1, e2, e3, e4, e5⟩ := key k k0 k1
          rw [e1] at hw
          exact Or.inr ⟨k, k0, k1, (e4 y).mp hw⟩
      · rintro (e | ⟨k, k0, k1, hw⟩)
        · exact Or.inl e
        · obtain ⟨e1, e2, e3, e4, e5⟩ := key k k0 k1
          refine Or.inr ⟨k, k0, k1, ?_⟩
          rw [e1]
          exact (e4 y).mpr hw
    · obtain ⟨e1, e2, e3, e4, e5⟩ := key k k0 k1
      obtain ⟨d1, d2, d3⟩ := hd k k0 k1
      rw [e1]
      refine ⟨e5 d1, fun hw => d2 ((e4 x).mp hw), fun k' k0' k1' hk y hy => ?_⟩
      obtain ⟨f1, f2, f3, f4, f5⟩ := key k' k0' k1'
      rw [f1]
      exact fun hw => d3 k' k0' k1' hk y ((e4 y).mp hy) ((f4 y).mp hw)
end TRE
/-! places of keys -/
def slF (n : Int) (a : Int → Int) (key : Int) : Nat → Int → Int
  | 0, k => k
  | f + 1, k => if k + 1 < n ∧ a (k + 1) ≤ key then slF n a key f (k + 1) else k
def slt (n : Int) (a : Int → Int) (key : Int) : Int := slF n a key n.toNat 0
def plF (n : Int) (a : Int → Int) (key : Int) : Nat → Int → Int
  | 0, k => k
  | f + 1, k => if k < n ∧ a k < key then plF n a key f (k + 1) else k
def plz (n : Int) (a : Int → Int) (key : Int) : Int := plF n a key n.toNat 0
section PLC
variable {n key : Int} {a : Int → Int}
theorem slF_ok : ∀ (f : Nat) (k : Int), n - k ≤ f → 0 ≤ k → k < n → (k = 0 ∨ a k ≤ key) → 0 ≤ slF n a key f k ∧ slF n a key f k < n ∧ (slF n a key f k = 0 ∨ a (slF n a key f k) ≤ key) ∧ (slF n a key f k + 1 < n → key < a (slF n a key f k + 1))
  | 0, k, h, h0, h1, h2 => by omega
  | f + 1, k, h, h0, h1, h2 => by
    unfold slF
    by_cases c : k + 1 < n ∧ a (k + 1) ≤ key
    · rw [if_pos c]
      exact slF_ok f (k + 1) (by omega) (by omega) c.1 (Or.inr c.2)
    · rw [if_neg c]
      exact ⟨h0, h1, h2, fun x => by omega⟩
theorem slt_ok (hn : 1 ≤ n) : 0 ≤ slt n a key ∧ slt n a key < n ∧ (slt n a key = 0 ∨ a (slt n a key) ≤ key) ∧ (slt n a key + 1 < n → key < a (slt n a key + 1)) := slF_ok n.toNat 0 (by omega) (by omega) (by omega) (Or.inl rfl)
theorem plF_ok : ∀ (f : Nat) (k : Int), n - k ≤ f → 0 ≤ k → k ≤ n → (∀ i, 0 ≤ i → i < k → a i < key) → 0 ≤ plF n a key f k ∧ plF n a key f k ≤ n ∧ (∀ i, 0 ≤ i → i < plF n a key f k → a i < key) ∧ (plF n a key f k < n → key ≤ a (plF n a key f k))
  | 0, k, h, h0, h1, h2 => by
    unfold plF
    exact ⟨h0, h1, h2, fun x => by omega⟩
  | f + 1, k, h, h0, h1, h2 => by
    unfold plF
    by_cases c : k < n ∧ a k < key
    · rw [if_pos c]
      refine plF_ok f (k + 1) (by omega) (by omega) (by omega) (fun i i0 i1 => ?_)
      by_cases e : i = k
      · subst e
        exact c.2
      · exact h2 i i0 (by omega)
    · rw [if_neg c]
      exact ⟨h0, h1, h2, fun x => by omega⟩
theorem plz_ok (hn : 0 ≤ n) : 0 ≤ plz n a key ∧ plz n a key ≤ n ∧ (∀ i, 0 ≤ i → i < plz n a key → a i < key) ∧ (plz n a key < n → key ≤ a (plz n a key)) := plF_ok n.toNat 0 (by omega) (by omega) (by omega) (fun i i0 i1 => by omega)
end PLC
/-! trees that are right -/
def OkL (n : Int) (a b : Int → Int) (lo hi : Int) : Prop := (∀ k, 0 ≤ k → k < n → lo ≤ a k ∧ a k < hi ∧ 0 ≤ b k ∧ b k < 100) ∧ ∀ k, 0 ≤ k → k + 1 < n → a k < a (k + 1)
def Okt : Tr → Nat → Int → Int → Prop
  | .lf _ n a b, h, lo, hi => h = 0 ∧ 1 ≤ n ∧ n ≤ 4 ∧ OkL n a b lo hi
  | .br _ n a c, h, lo, hi => ∃ h', h = h' + 1 ∧ 1 ≤ n ∧ n ≤ 4 ∧ ∀ k, 0 ≤ k → k < n → lo ≤ a k ∧ tlst (c k) = a k ∧ Okt (c k) h' (a k) (if k + 1 < n then a (k + 1) else hi)
/-- right but for how many rows the first node has -/
def OkR : Tr → Nat → Int → Int → Prop
  | .lf _ n a b, h, lo, hi => h = 0 ∧ 0 ≤ n ∧ n ≤ 5 ∧ OkL n a b lo hi
  | .br _ n a c, h, lo, hi => ∃ h', h = h' + 1 ∧ 0 ≤ n ∧ n ≤ 5 ∧ ∀ k, 0 ≤ k → k < n → lo ≤ a k ∧ tlst (c k) = a k ∧ Okt (c k) h' (a k) (if k + 1 < n then a (k + 1) else hi)
section OKT
variable {t : Tr} {h : Nat} {lo hi lo' hi' : Int}
theorem Okt_R (o : Okt t h lo hi) : OkR t h lo hi ∧ 1 ≤ tsz t ∧ tsz t ≤ 4 := by
  cases t with
  | lf p n a b => exact ⟨⟨o.1, by have := o.2.1; omega, by have := o.2.2.1; omega, o.2.2.2⟩, o.2.1, o.2.2.1⟩
  | br p n a c =>
    obtain ⟨h', e, n0, n1, r⟩ := o
    exact ⟨⟨h', e, by omega, by omega, r⟩, n0, n1⟩
theorem OkR_t (o : OkR t h lo hi) (h0 : 1 ≤ tsz t) (h1 : tsz t ≤ 4) : Okt t h lo hi := by
  cases t with
  | lf p n a b => exact ⟨o.1, h0, h1, o.2.2.2⟩
  | br p n a c =>
    obtain ⟨h', e, n0, n1, r⟩ := o
    exact ⟨h', e, h0, h1, r⟩
theorem Okt_lst (o : Okt t h lo hi) : lo ≤ tlst t := by
  cases t with
  | lf p n a b => exact (o.2.2.2.1 0 (by omega) (by have := o.2.1; omega)).1
  | br p n a c =>
    obtain ⟨h', e, n0, n1, r⟩ := o
    exact (r 0 (by omega) (by omega)).1
theorem Okt_hi : ∀ {t : Tr} {h : Nat} {lo hi hi' : Int}, Okt t h lo hi → hi ≤ hi' → Okt t h lo hi' := by
  intro t
  induction t with
  | lf p n a b => exact fun o x => ⟨o.1, o.2.1, o.2.2.1, fun k k0 k1 => by have := o.2.2.2.1 k k0 k1; omega, o.2.2.2.2⟩
  | br p n a c ih =>
    rintro h lo hi hi' ⟨h', e, n0, n1, r⟩ x
    refine ⟨h', e, n0, n1, fun k k0 k1 => ?_⟩
    obtain ⟨r1, r2, r3⟩ := r k k0 k1
    refine ⟨r1, r2, ih k r3 ?_⟩
    split <;> omega
theorem Okt_lt : ∀ {t : Tr} {h : Nat} {lo hi : Int}, Okt t h lo hi → tlst t < hi := by
  intro t
  induction t with
  | lf p n a b => exact fun o => (o.2.2.2.1 0 (by omega) (by have := o.2.1; omega)).2.1
  | br p n a c ih =>
    rintro h lo hi ⟨h', e, n0, n1, r⟩
    have dn : ∀ m : Nat, (m : Int) < n → a (n - 1 - m) < hi := fun m => by
      induction m with
      | zero =>
        intro hm
        obtain ⟨r1, r2, r3⟩ := r (n - 1) (by omega) (by omega)
        have := ih (n - 1) r3
        rw [if_neg (by omega), r2] at this
        simpa using this
      | succ m im =>
        intro hm
        have i1 := im (by omega)
        obtain ⟨r1, r2, r3⟩ := r (n - 1 - ((m + 1 : Nat) : Int)) (by omega) (by omega)
        have := ih _ r3
        rw [if_pos (by omega), r2, show n - 1 - ((m + 1 : Nat) : Int) + 1 = n - 1 - m by omega] at this
        omega
    have := dn (n - 1).toNat (by omega)
    rw [show n - 1 - (((n - 1).toNat : Nat) : Int) = 0 by omega] at this
    exact this
/-- keys rise -/
theorem OkR_up {p n : Int} {a : Int → Int} {c : Int → Tr} (o : OkR (.br p n a c) h lo hi) {k : Int} (k0 : 0 ≤ k) (k1 : k + 1 < n) : a k < a (k + 1) := by
  obtain ⟨h', e, n0, n1, r⟩ := o
  obtain ⟨r1, r2, r3⟩ := r k k0 (by omega)
  rw [if_pos k1] at r3
  have := Okt_lt r3
  omega
theorem up_le {n : Int} {a : Int → Int} (u : ∀ k, 0 ≤ k → k + 1 < n → a k < a (k + 1)) {i k : Int} (i0 : 0 ≤ i) (ik : i ≤ k) (k1 : k < n) : a i ≤ a k := by
  have up0 : ∀ m : Nat, i + m < n → a i ≤ a (i + m) := fun m => by
    induction m with
    | zero => intro _; simp
    | succ m ih =>
      intro hm
      have := ih (by omega)
      have := u (i + m) (by omega) (by omega)
      rw [show i + ((m + 1 : Nat) : Int) = i + (m : Int) + 1 by omega]
      omega
  have := up0 (k - i).toNat (by omega)
  rw [show i + (((k - i).toNat : Nat) : Int) = k by omega] at this
  exact this
theorem Okt_lo (o : Okt t h lo hi) (x : lo' ≤ tlst t) : Okt t h lo' hi := by
  cases t with
  | lf p n a b =>
    have x' : lo' ≤ a 0 := x
    refine ⟨o.1, o.2.1, o.2.2.1, fun k k0 k1 => ?_, o.2.2.2.2⟩
    have := up_le o.2.2.2.2 (Int.le_refl 0) k0 k1
    have := o.2.2.2.1 k k0 k1
    omega
  | br p n a c =>
    have x' : lo' ≤ a 0 := x
    have oR := (Okt_R o).1
    obtain ⟨h', e, n0, n1, r⟩ := o
    refine ⟨h', e, n0, n1, fun k k0 k1 => ?_⟩
    obtain ⟨r1, r2, r3⟩ := r k k0 k1
    have := up_le (fun k k0 k1 => OkR_up oR k0 k1) (Int.le_refl 0) k0 k1
    exact ⟨by omega, r2, r3⟩
end OKT
