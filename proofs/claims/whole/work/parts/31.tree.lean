/-! TREES on the disk: what is beneath a page, how many keys, what is written in what order -/
def TD (m : Int → Int) (top : Int) (Lv : Int → Prop) (ht : Int → Nat) (n : Nat) (r : Int) : Prop := Tree (fun p => pg m p 0) (fun p => pg m p 1) (fun p k => pg m p (4 + k)) (fun p k => pg m p (10 + k)) top Lv ht n r
def Inn (m : Int → Int) : Nat → Int → Int → Prop
  | 0, r, p => p = r
  | h + 1, r, p => p = r ∨ ∃ k, 0 ≤ k ∧ k < pg m r 1 ∧ Inn m h (pg m r (10 + k)) p
def kc (m : Int → Int) : Nat → Int → Int
  | 0, r => pg m r 1
  | h + 1, r => q_S (fun k => kc m h (pg m r (10 + k))) 0 (pg m r 1)
def VF (m : Int → Int) : Nat → Int → (Int → Int32) → Int → Int32
  | 0, r, V => q_it (fun k V z => if z = pg m r (4 + k) then q_I (pg m r (10 + k)) else V z) (pg m r 1).toNat V
  | h + 1, r, V => q_it (fun k V => VF m h (pg m r (10 + k)) V) (pg m r 1).toNat V
section TR
variable {m : Int → Int} {top : Int} {Lv : Int → Prop} {ht : Int → Nat} {n : Nat} {r : Int} (T : TD m top Lv ht n r)
theorem td_rng (T : TD m top Lv ht n r) {p : Int} (h : Lv p) : 2 ≤ p ∧ p < top ∧ ht p ≤ n ∧ 1 ≤ pg m p 1 ∧ pg m p 1 ≤ 4 := T.2.1 p h
theorem td_root (T : TD m top Lv ht n r) : Lv r ∧ ht r = n := T.1
theorem td_lk (T : TD m top Lv ht n r) {p : Int} (h : Lv p) (h0 : ht p = 0) : pg m p 0 = 1 := (T.2.2.1 p h h0).1
theorem td_la (T : TD m top Lv ht n r) {p k : Int} (h : Lv p) (h0 : ht p = 0) (h1 : 0 ≤ k) (h2 : k < pg m p 1) : 0 ≤ pg m p (4 + k) ∧ pg m p (4 + k) < 100 ∧ 0 ≤ pg m p (10 + k) ∧ pg m p (10 + k) < 100 := (T.2.2.1 p h h0).2 k h1 h2
theorem td_bk (T : TD m top Lv ht n r) {p : Int} (h : Lv p) (h0 : 0 < ht p) : pg m p 0 = 2 := (T.2.2.2.1 p h h0).1
theorem td_bc (T : TD m top Lv ht n r) {p k : Int} (h : Lv p) (h0 : 0 < ht p) (h1 : 0 ≤ k) (h2 : k < pg m p 1) : Lv (pg m p (10 + k)) ∧ ht (pg m p (10 + k)) + 1 = ht p := ⟨((T.2.2.2.1 p h h0).2 k h1 h2).1, ((T.2.2.2.1 p h h0).2 k h1 h2).2.1⟩
theorem td_bl (T : TD m top Lv ht n r) {p k : Int} (h : Lv p) (h0 : 0 < ht p) (h1 : 0 ≤ k) (h2 : k < pg m p 1) : pg m p (4 + k) = pg m (pg m p (10 + k)) 4 := ((T.2.2.2.1 p h h0).2 k h1 h2).2.2
theorem td_un (T : TD m top Lv ht n r) {p p' k k' : Int} (a1 : Lv p) (a2 : Lv p') (a3 : 0 < ht p) (a4 : 0 < ht p') (a5 : 0 ≤ k) (a6 : k < pg m p 1) (a7 : 0 ≤ k') (a8 : k' < pg m p' 1) (e : pg m p (10 + k) = pg m p' (10 + k')) : p = p' ∧ k = k' := T.2.2.2.2.1 p p' k k' a1 a2 a3 a4 a5 a6 a7 a8 e
theorem td_par (T : TD m top Lv ht n r) {p : Int} (h : Lv p) : p = r ∨ ∃ p' k, Lv p' ∧ 0 < ht p' ∧ 0 ≤ k ∧ k < pg m p' 1 ∧ pg m p' (10 + k) = p := T.2.2.2.2.2 p h
theorem Inn_self (h : Nat) (p : Int) : Inn m h p p := by
  cases h
  · rfl
  · exact Or.inl rfl
theorem td_inn (T : TD m top Lv ht n r) : ∀ (h : Nat) {p q : Int}, Lv p → ht p = h → Inn m h p q → Lv q ∧ ht q ≤ h
  | 0, p, q, hp, e, i => by
    have : q = p := i
    subst this
    exact ⟨hp, by omega⟩
  | h + 1, p, q, hp, e, i => by
    rcases i with e' | ⟨k, k1, k2, i⟩
    · subst e'
      exact ⟨hp, by omega⟩
    · obtain ⟨c1, c2⟩ := td_bc T hp (by omega) k1 k2
      obtain ⟨l1, l2⟩ := td_inn T h c1 (by omega) i
      exact ⟨l1, by omega⟩
/-- beneath two of the same height there is nothing in common -/
theorem td_dis (T : TD m top Lv ht n r) : ∀ (h : Nat) {p p' q : Int}, Lv p → Lv p' → ht p = h → ht p' = h → Inn m h p q → Inn m h p' q → p = p'
  | 0, p, p', q, _, _, _, _, i, i' => by
    have e : q = p := i
    have e' : q = p' := i'
    omega
  | h + 1, p, p', q, a, a', b, b', i, i' => by
    rcases i with e | ⟨k, k1, k2, i⟩
    · rcases i' with e' | ⟨k', k1', k2', i'⟩
      · omega
      · subst e
        obtain ⟨c1, c2⟩ := td_bc T a' (by omega) k1' k2'
        have := (td_inn T h c1 (by omega) i').2
        omega
    · obtain ⟨c1, c2⟩ := td_bc T a (by omega) k1 k2
      rcases i' with e' | ⟨k', k1', k2', i'⟩
      · subst e'
        have := (td_inn T h c1 (by omega) i).2
        omega
      · obtain ⟨c1', c2'⟩ := td_bc T a' (by omega) k1' k2'
        have := td_dis T h c1 c1' (by omega) (by omega) i i'
        exact (td_un T a a' (by omega) (by omega) k1 k2 k1' k2' this).1
/-- all of the tree is beneath its root, if the set is no larger than wanted -/
theorem td_nself (T : TD m top Lv ht n r) {h : Nat} {p k : Int} (a : Lv p) (b : ht p = h + 1) (h1 : 0 ≤ k) (h2 : k < pg m p 1) : ¬ Inn m h (pg m p (10 + k)) p := by
  intro i
  obtain ⟨c1, c2⟩ := td_bc T a (by omega) h1 h2
  have := (td_inn T h c1 (by omega) i).2
  omega
theorem td_sib (T : TD m top Lv ht n r) {h : Nat} {p k k' q : Int} (a : Lv p) (b : ht p = h + 1) (h1 : 0 ≤ k) (h2 : k < pg m p 1) (h1' : 0 ≤ k') (h2' : k' < pg m p 1) (hk : k ≠ k') (i : Inn m h (pg m p (10 + k)) q) : ¬ Inn m h (pg m p (10 + k')) q := by
  intro i'
  obtain ⟨c1, c2⟩ := td_bc T a (by omega) h1 h2
  obtain ⟨c1', c2'⟩ := td_bc T a (by omega) h1' h2'
  have := td_dis T h c1 c1' (by omega) (by omega) i i'
  exact hk (td_un T a a (by omega) (by omega) h1 h2 h1' h2' this).2
/-- no more keys than there is room for -/
theorem kc_rng (T : TD m top Lv ht n r) {hb : Int → Int} (Od : Ordd (fun p => pg m p 1) (fun p k => pg m p (4 + k)) (fun p k => pg m p (10 + k)) Lv ht hb) : ∀ (h : Nat) {p : Int}, Lv p → ht p = h → 1 ≤ kc m h p ∧ kc m h p ≤ hb p - pg m p 4
  | 0, p, a, b => by
    have R := td_rng T a
    have e : kc m 0 p = pg m p 1 := rfl
    rw [e]
    obtain ⟨o1, o2⟩ := Od.2.1 p a b
    dsimp only at o1 o2
    refine ⟨by omega, ?_⟩
    have key : ∀ n : Nat, (n : Int) < pg m p 1 → pg m p 4 + n ≤ pg m p (4 + n) := by
      intro n
      induction n with
      | zero =>
        intro _
        rw [show (4 : Int) + ((0 : Nat) : Int) = 4 from rfl]
        omega
      | succ n ih =>
        intro hn
        have := ih (by omega)
        have := o1 n (by omega) (by omega)
        rw [show 4 + ((n + 1 : Nat) : Int) = 4 + ((n : Int) + 1) by omega]
        omega
    have := key (pg m p 1 - 1).toNat (by omega)
    rw [show (((pg m p 1 - 1).toNat : Nat) : Int) = pg m p 1 - 1 by omega] at this
    omega
  | h + 1, p, a, b => by
    have R := td_rng T a
    have e : kc m (h + 1) p = q_S (fun k => kc m h (pg m p (10 + k))) 0 (pg m p 1) := rfl
    obtain ⟨o1, o2⟩ := Od.2.2 p a (by omega)
    dsimp only at o1 o2
    have key : ∀ n : Nat, (n : Int) < pg m p 1 → (n : Int) + 1 ≤ q_S (fun k => kc m h (pg m p (10 + k))) 0 ((n : Int) + 1) ∧ q_S (fun k => kc m h (pg m p (10 + k))) 0 ((n : Int) + 1) ≤ hb (pg m p (10 + n)) - pg m p 4 := by
      intro n
      induction n with
      | zero =>
        intro hn
        obtain ⟨c1, c2⟩ := td_bc T a (by omega) (Int.le_refl 0) (by omega)
        have i := kc_rng T Od h c1 (by omega)
        have l := td_bl T a (by omega) (Int.le_refl 0) (by omega)
        rw [show ((0 : Nat) : Int) + 1 = 0 + 1 by rfl, show (10 : Int) + ((0 : Nat) : Int) = 10 + 0 from rfl, q_S_1 _ (Int.le_refl 0), q_S_0]
        rw [show (4 : Int) + 0 = 4 from rfl] at l
        omega
      | succ n ih =>
        intro hn
        obtain ⟨i1, i2⟩ := ih (by omega)
        have j := o1 n (by omega) (by omega)
        obtain ⟨c1, c2⟩ := td_bc T a (by omega) (k := (n : Int) + 1) (by omega) (by omega)
        have i := kc_rng T Od h c1 (by omega)
        have l := td_bl T a (by omega) (k := (n : Int) + 1) (by omega) (by omega)
        rw [show ((n + 1 : Nat) : Int) = (n : Int) + 1 by rfl, q_S_1 _ (by omega)]
        omega
    have := key (pg m p 1 - 1).toNat (by omega)
    rw [show (((pg m p 1 - 1).toNat : Nat) : Int) = pg m p 1 - 1 by omega, show pg m p 1 - 1 + 1 = pg m p 1 by omega] at this
    rw [e]
    omega
end TR
