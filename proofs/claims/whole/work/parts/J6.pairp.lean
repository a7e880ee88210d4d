/-! PAIRS: search and table tell the same -/
noncomputable def m4b (a b c d : Bool) : Int := (if a then 1 else 0) + (if b then 2 else 0) + (if c then 4 else 0) + (if d then 8 else 0)
noncomputable def m4 (e : Int → Bool) : Int := m4b (e 0) (e 1) (e 2) (e 3)
theorem m4b_rg : ∀ a b c d : Bool, (0 ≤ m4b a b c d ∧ m4b a b c d < 16) ∧ (m4b a b c d = 0 ↔ (a = false ∧ b = false ∧ c = false ∧ d = false)) := by decide +kernel
theorem m4b_hb : ∀ a b c d : Bool, (hb (m4b a b c d) 0 ↔ a = true) ∧ (hb (m4b a b c d) 1 ↔ b = true) ∧ (hb (m4b a b c d) 2 ↔ c = true) ∧ (hb (m4b a b c d) 3 ↔ d = true) := by decide +kernel
theorem m4b_dl : ∀ a b c d : Bool, dlt (m4b a b c d) 0 = m4b false b c d ∧ dlt (m4b a b c d) 1 = m4b a false c d ∧ dlt (m4b a b c d) 2 = m4b a b false d ∧ dlt (m4b a b c d) 3 = m4b a b c false := by decide +kernel
theorem m4_c {e e' : Int → Bool} (h : ∀ i, 0 ≤ i → i < 4 → e i = e' i) : m4 e = m4 e' := by
  unfold m4
  rw [h 0 (by omega) (by omega), h 1 (by omega) (by omega), h 2 (by omega) (by omega), h 3 (by omega) (by omega)]
theorem m4_rg (e : Int → Bool) : 0 ≤ m4 e ∧ m4 e < 16 := (m4b_rg _ _ _ _).1
theorem m4_hb {e : Int → Bool} {i : Int} (i0 : 0 ≤ i) (i1 : i < 4) : hb (m4 e) i ↔ e i = true := by
  obtain ⟨h0, h1, h2, h3⟩ := m4b_hb (e 0) (e 1) (e 2) (e 3)
  rcases (show i = 0 ∨ i = 1 ∨ i = 2 ∨ i = 3 by omega) with h | h | h | h
  · subst h
    exact h0
  · subst h
    exact h1
  · subst h
    exact h2
  · subst h
    exact h3
theorem m4_dl {e e' : Int → Bool} {i : Int} (i0 : 0 ≤ i) (i1 : i < 4) (h1 : e' i = false) (h2 : ∀ j, 0 ≤ j → j < 4 → j ≠ i → e' j = e j) : dlt (m4 e) i = m4 e' := by
  obtain ⟨d0, d1, d2, d3⟩ := m4b_dl (e 0) (e 1) (e 2) (e 3)
  unfold m4
  rcases (show i = 0 ∨ i = 1 ∨ i = 2 ∨ i = 3 by omega) with h | h | h | h
  · subst h
    rw [d0, h1, h2 1 (by omega) (by omega) (by omega), h2 2 (by omega) (by omega) (by omega), h2 3 (by omega) (by omega) (by omega)]
  · subst h
    rw [d1, h1, h2 0 (by omega) (by omega) (by omega), h2 2 (by omega) (by omega) (by omega), h2 3 (by omega) (by omega) (by omega)]
  · subst h
    rw [d2, h1, h2 0 (by omega) (by omega) (by omega), h2 1 (by omega) (by omega) (by omega), h2 3 (by omega) (by omega) (by omega)]
  · subst h
    rw [d3, h1, h2 0 (by omega) (by omega) (by omega), h2 1 (by omega) (by omega) (by omega), h2 2 (by omega) (by omega) (by omega)]
section PPP
variable {ma : Int → Int → Prop} {cm : Int → Int → Int} {V : (Int → Int) → Int × (Int → Int)} {P : Int → Int} {r : Int}
noncomputable def pCa (ma : Int → Int → Prop) (P : Int → Int) (r : Int) (k : Nat) : Prop := P (r + 1 + k) = -1 ∧ ma r (r + 1 + k)
noncomputable def pVa (cm : Int → Int → Int) (V : (Int → Int) → Int × (Int → Int)) (P : Int → Int) (r : Int) (k : Nat) : Int := cm r (r + 1 + k) + (V (up (up P r (r + 1 + k)) (r + 1 + k) r)).1
theorem pfS_s [∀ a b, Decidable (ma a b)] (k : Nat) : (pCa ma P r k ∧ (pfS ma cm V P r k).1 < pVa cm V P r k ∧ pfS ma cm V P r (k + 1) = (pVa cm V P r k, (V (up (up P r (r + 1 + k)) (r + 1 + k) r)).2)) ∨ (pfS ma cm V P r (k + 1) = pfS ma cm V P r k ∧ (pCa ma P r k → pVa cm V P r k ≤ (pfS ma cm V P r k).1)) := by
  by_cases c1 : P (r + 1 + k) = -1 ∧ ma r (r + 1 + k)
  · by_cases c2 : (pfS ma cm V P r k).1 < cm r (r + 1 + k) + (V (up (up P r (r + 1 + k)) (r + 1 + k) r)).1
    · refine Or.inl ⟨c1, c2, ?_⟩
      rw [pfS, if_pos c1, if_pos c2]
      rfl
    · refine Or.inr ⟨?_, fun _ => ?_⟩
      · rw [pfS, if_pos c1, if_neg c2]
      · unfold pVa
        omega
  · refine Or.inr ⟨?_, fun h => absurd h c1⟩
    rw [pfS, if_neg c1]
theorem pfS_mo [∀ a b, Decidable (ma a b)] : ∀ k j : Nat, (pfS ma cm V P r k).1 ≤ (pfS ma cm V P r (k + j)).1 ∧ ((pfS ma cm V P r (k + j)).1 = (pfS ma cm V P r k).1 → pfS ma cm V P r (k + j) = pfS ma cm V P r k)
  | k, 0 => ⟨Int.le_refl _, fun _ => rfl⟩
  | k, j + 1 => by
    obtain ⟨i1, i2⟩ := pfS_mo k j
    rcases pfS_s (ma := ma) (cm := cm) (V := V) (P := P) (r := r) (k + j) with ⟨-, h1, h2⟩ | ⟨h1, -⟩
    · rw [show k + (j + 1) = k + j + 1 by omega, h2]
      dsimp only
      exact ⟨by omega, fun e => by omega⟩
    · rw [show k + (j + 1) = k + j + 1 by omega, h1]
      exact ⟨i1, i2⟩
theorem pfS_at [∀ a b, Decidable (ma a b)] : ∀ k : Nat, (pfS ma cm V P r k).1 = (V P).1 ∨ ∃ j, j < k ∧ pCa ma P r j ∧ pVa cm V P r j = (pfS ma cm V P r k).1
  | 0 => Or.inl rfl
  | k + 1 => by
    rcases pfS_s (ma := ma) (cm := cm) (V := V) (P := P) (r := r) k with ⟨h0, h1, h2⟩ | ⟨h1, -⟩
    · exact Or.inr ⟨k, by omega, h0, by rw [h2]⟩
    · rw [h1]
      rcases pfS_at k with h | ⟨j, j1, j2, j3⟩
      · exact Or.inl h
      · exact Or.inr ⟨j, by omega, j2, j3⟩
theorem pfS_up [∀ a b, Decidable (ma a b)] : ∀ (k j : Nat), j < k → pCa ma P r j → pVa cm V P r j ≤ (pfS ma cm V P r k).1 := fun k j h hc => by
  have m1 := (pfS_mo (ma := ma) (cm := cm) (V := V) (P := P) (r := r) (j + 1) (k - (j + 1))).1
  rw [show j + 1 + (k - (j + 1)) = k by omega] at m1
  rcases pfS_s (ma := ma) (cm := cm) (V := V) (P := P) (r := r) j with ⟨h0, h1, h2⟩ | ⟨h1, h2⟩
  · rw [h2] at m1
    exact m1
  · rw [h1] at m1
    have := h2 hc
    omega
theorem pfS_a [∀ a b, Decidable (ma a b)] {n : Nat} (h : (V P).1 = (pfS ma cm V P r n).1) : pfS ma cm V P r n = V P := by
  have m1 := (pfS_mo (ma := ma) (cm := cm) (V := V) (P := P) (r := r) 0 n).2
  rw [Nat.zero_add] at m1
  exact m1 h.symm
theorem pfS_b [∀ a b, Decidable (ma a b)] {n j : Nat} (hj : j < n) (h0 : (V P).1 ≠ (pfS ma cm V P r n).1) (hc : pCa ma P r j) (hv : pVa cm V P r j = (pfS ma cm V P r n).1) (hf : ∀ i, i < j → pCa ma P r i → pVa cm V P r i ≠ (pfS ma cm V P r n).1) : (pfS ma cm V P r n).2 = (V (up (up P r (r + 1 + j)) (r + 1 + j) r)).2 := by
  have m1 := pfS_mo (ma := ma) (cm := cm) (V := V) (P := P) (r := r) (j + 1) (n - (j + 1))
  have m2 := pfS_mo (ma := ma) (cm := cm) (V := V) (P := P) (r := r) j (n - j)
  rw [show j + 1 + (n - (j + 1)) = n by omega] at m1
  rw [show j + (n - j) = n by omega] at m2
  have ne : (pfS ma cm V P r j).1 ≠ (pfS ma cm V P r n).1 := fun e => by
    rcases pfS_at (ma := ma) (cm := cm) (V := V) (P := P) (r := r) j with h | ⟨i, i1, i2, i3⟩
    · exact h0 (by rw [← h, e])
    · exact hf i i1 i2 (by rw [i3, e])
  rcases pfS_s (ma := ma) (cm := cm) (V := V) (P := P) (r := r) j with ⟨-, h1, h2⟩ | ⟨h1, h2⟩
  · have e : pfS ma cm V P r n = pfS ma cm V P r (j + 1) := m1.2 (by rw [h2]; dsimp only; omega)
    rw [e, h2]
  · have := h2 hc
    omega
theorem pfS_no [∀ a b, Decidable (ma a b)] (h : ∀ o, ¬ ma r o) : ∀ k, pfS ma cm V P r k = V P
  | 0 => rfl
  | k + 1 => by
    rw [pfS, if_neg (fun c => h _ c.2), pfS_no h k]
theorem pfS_kp [∀ a b, Decidable (ma a b)] {i : Int} (hr : P r = -1) (hV : ∀ P', (P' i = P i → (V P').2 i = P i)) (hi : i < r ∨ P i ≠ -1) : ∀ k, (pfS ma cm V P r k).2 i = P i
  | 0 => hV P rfl
  | k + 1 => by
    rcases pfS_s (ma := ma) (cm := cm) (V := V) (P := P) (r := r) k with ⟨h0, h1, h2⟩ | ⟨h1, -⟩
    · rw [h2]
      refine hV _ ?_
      have e1 : i ≠ r := fun e => by
        rcases hi with h | h
        · omega
        · exact h (e ▸ hr)
      have e2 : i ≠ r + 1 + k := fun e => by
        rcases hi with h | h
        · omega
        · exact h (e ▸ h0.1)
      rw [up_ne e2, up_ne e1]
    · rw [h1]
      exact pfS_kp hr hV hi k
theorem pfV_kp [∀ a b, Decidable (ma a b)] : ∀ (n : Nat) (P : Int → Int) {i : Int}, n ≤ 4 → (i < 4 - n ∨ P i ≠ -1) → (pfV ma cm n P).2 i = P i
  | 0, P, i, _, _ => rfl
  | n + 1, P, i, hn, hi => by
    rw [pfV]
    by_cases h : P (3 - n) = -1
    · rw [if_pos h]
      refine pfS_kp h (fun P' e => ?_) (by omega) n
      rw [← e]
      exact pfV_kp n P' (by omega) (by omega)
    · rw [if_neg h]
      exact pfV_kp n P (by omega) (by omega)
end PPP
section PPV
variable {m A : Int → Int}
noncomputable def fl4 (m : Int → Int) (n : Nat) (P : Int → Int) (i : Int) : Bool := decide (4 - (n : Int) ≤ i) && (decide (P i = -1) && vo m i)
theorem fl4_t {n : Nat} {P : Int → Int} {i : Int} : fl4 m n P i = true ↔ (4 - (n : Int) ≤ i ∧ P i = -1 ∧ vo m i = true) := by
  unfold fl4
  simp only [Bool.and_eq_true, decide_eq_true_eq]
theorem fl4_e {n n' : Nat} {P P' : Int → Int} {i : Int} (h : (4 - (n : Int) ≤ i ∧ P i = -1 ∧ vo m i = true) ↔ (4 - (n' : Int) ≤ i ∧ P' i = -1 ∧ vo m i = true)) : fl4 m n P i = fl4 m n' P' i := by
  rw [Bool.eq_iff_iff, fl4_t, fl4_t]
  exact h
theorem fl4_skip {n : Nat} {P : Int → Int} (h : ¬ (P (3 - n) = -1 ∧ vo m (3 - n) = true)) : m4 (fl4 m (n + 1) P) = m4 (fl4 m n P) := m4_c (fun i i0 i1 => fl4_e (by
  by_cases e : i = 3 - n
  · subst e
    exact ⟨fun x => absurd x.2 h, fun x => absurd x.2 h⟩
  · exact ⟨fun x => ⟨by omega, x.2⟩, fun x => ⟨by omega, x.2⟩⟩))
theorem fl4_dl {n : Nat} {P : Int → Int} (n1 : n < 4) : dlt (m4 (fl4 m (n + 1) P)) (3 - n) = m4 (fl4 m n P) := m4_dl (by omega) (by omega) (by
  rw [Bool.eq_false_iff]
  intro x
  have := (fl4_t.mp x).1
  omega) (fun j j0 j1 hj => fl4_e ⟨fun x => ⟨by omega, x.2⟩, fun x => ⟨by omega, x.2⟩⟩)
theorem fl4_low {n : Nat} {P : Int → Int} (n1 : n < 4) (h : P (3 - n) = -1) (h2 : vo m (3 - n) = true) : Low (m4 (fl4 m (n + 1) P)) (3 - n) := ⟨by omega, by omega, (m4_hb (by omega) (by omega)).mpr (fl4_t.mpr ⟨by omega, h, h2⟩), fun j j0 j1 x => by
  have := (fl4_t.mp ((m4_hb (by omega) (by omega)).mp x)).1
  omega⟩
theorem fl4_dl2 {n : Nat} {P : Int → Int} {o : Int} (n1 : n < 4) (o0 : 3 - (n : Int) < o) (o1 : o < 4) : dlt (m4 (fl4 m n P)) o = m4 (fl4 m n (up (up P (3 - n) o) o (3 - n))) := m4_dl (by omega) o1 (by
  rw [Bool.eq_false_iff]
  intro x
  have := (fl4_t.mp x).2.1
  rw [up_eq rfl] at this
  omega) (fun j j0 j1 hj => fl4_e (by
    by_cases e : j = 3 - n
    · subst e
      exact ⟨fun x => by have := x.1; omega, fun x => by have := x.1; omega⟩
    · rw [up_ne hj, up_ne e]))
theorem fl4_ca {n k : Nat} {P : Int → Int} (n1 : n < 4) (k1 : k < n) (h2 : vo m (3 - n) = true) : pCa (pMa m) P (3 - n) k ↔ (hb (m4 (fl4 m n P)) (3 - n + 1 + k) ∧ mb m (3 - n) (3 - n + 1 + k)) := by
  rw [m4_hb (by omega) (by omega), fl4_t]
  constructor
  · rintro ⟨h, ⟨h3, h4⟩, h5⟩
    exact ⟨⟨by omega, h, h4⟩, h5⟩
  · rintro ⟨⟨h3, h4, h5⟩, h6⟩
    exact ⟨h4, ⟨h2, h5⟩, h6⟩
/-- what the search finds stands in the table -/
theorem pf_val (hA : ∀ S, 0 ≤ S → S < 16 → BsE m A S) : ∀ (n : Nat) (P : Int → Int), n ≤ 4 → (pfV (pMa m) (CM m) n P).1 = A (m4 (fl4 m n P))
  | 0, P, _ => by
    have e : m4 (fl4 m 0 P) = 0 := by
      have e' : m4 (fl4 m 0 P) = m4 (fun _ => false) := m4_c (fun i i0 i1 => by
        rw [Bool.eq_false_iff]
        intro x
        have := (fl4_t.mp x).1
        omega)
      rw [e']
      rfl
    rw [e, (hA 0 (by omega) (by omega)).1 rfl]
    rfl
  | n + 1, P, hn => by
    have ih := pf_val hA n
    rw [pfV]
    by_cases h : P (3 - n) = -1
    · rw [if_pos h]
      by_cases h2 : vo m (3 - n) = true
      · have rg := m4_rg (fl4 m (n + 1) P)
        have e := (hA _ rg.1 rg.2).2 _ (fl4_low (by omega) h h2)
        rw [fl4_dl (by omega), show (3 - (3 - (n : Int))).toNat = n by omega] at e
        rw [e]
        have key : ∀ k, k ≤ n → (pfS (pMa m) (CM m) (pfV (pMa m) (CM m) n) P (3 - n) k).1 = gz m A (3 - n) (m4 (fl4 m n P)) k := fun k => by
          induction k with
          | zero => exact fun _ => ih P (by omega)
          | succ k ik =>
            intro hk
            have ik := ik (by omega)
            have ca := fl4_ca (m := m) (P := P) (show n < 4 by omega) (show k < n by omega) h2
            have va : pVa (CM m) (pfV (pMa m) (CM m) n) P (3 - n) k = CM m (3 - n) (3 - n + 1 + k) + A (dlt (m4 (fl4 m n P)) (3 - n + 1 + k)) := by
              unfold pVa
              rw [ih _ (by omega), fl4_dl2 (by omega) (by omega) (by omega)]
            rw [gz]
            by_cases c1 : hb (m4 (fl4 m n P)) (3 - n + 1 + k) ∧ mb m (3 - n) (3 - n + 1 + k)
            · rw [if_pos c1, ← ik, ← va]
              unfold mx
              rcases pfS_s (ma := pMa m) (cm := CM m) (V := pfV (pMa m) (CM m) n) (P := P) (r := 3 - n) k with ⟨-, h1, h2⟩ | ⟨h1, h2⟩
              · rw [h2, if_neg (by omega)]
              · have := h2 (ca.mpr c1)
                rw [h1]
                split
                · rfl
                · omega
            · rw [if_neg c1, ← ik]
              rcases pfS_s (ma := pMa m) (cm := CM m) (V := pfV (pMa m) (CM m) n) (P := P) (r := 3 - n) k with ⟨h0, -⟩ | ⟨h1, -⟩
              · exact absurd (ca.mp h0) c1
              · rw [h1]
        exact key n (Nat.le_refl _)
      · rw [pfS_no (fun o c => h2 c.1.1), fl4_skip (fun c => h2 c.2), ih P (by omega)]
    · rw [if_neg h, fl4_skip (fun c => h c.1), ih P (by omega)]
end PPV
