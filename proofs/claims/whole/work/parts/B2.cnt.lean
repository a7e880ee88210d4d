/-! TREES off the disk: how many nodes they have, and may come to have -/
noncomputable def smz (f : Int → Int) : Nat → Int
  | 0 => 0
  | n + 1 => smz f n + f n
section SMZ
variable {f g : Int → Int}
theorem smz_c : ∀ {n : Nat}, (∀ k : Int, 0 ≤ k → k < n → f k = g k) → smz f n = smz g n
  | 0, _ => rfl
  | n + 1, h => by
    unfold smz
    rw [smz_c (fun k k0 k1 => h k k0 (by omega)), h n (by omega) (by omega)]
theorem smz_le : ∀ {n : Nat}, (∀ k : Int, 0 ≤ k → k < n → f k ≤ g k) → smz f n ≤ smz g n
  | 0, _ => Int.le_refl _
  | n + 1, h => by
    unfold smz
    have := smz_le (n := n) (fun k k0 k1 => h k k0 (by omega))
    have := h n (by omega) (by omega)
    omega
theorem smz_0 : ∀ {n : Nat}, (∀ k : Int, 0 ≤ k → k < n → 0 ≤ f k) → 0 ≤ smz f n
  | 0, _ => Int.le_refl _
  | n + 1, h => by
    unfold smz
    have := smz_0 (n := n) (fun k k0 k1 => h k k0 (by omega))
    have := h n (by omega) (by omega)
    omega
theorem smz_up {j v : Int} : ∀ {n : Nat}, 0 ≤ j → j < n → smz (up f j v) n = smz f n - f j + v
  | 0, h0, h1 => by omega
  | n + 1, h0, h1 => by
    unfold smz
    by_cases e : j = n
    · rw [up_eq e.symm, ← e, smz_c (g := f) (fun k k0 k1 => up_ne (by omega))]
      omega
    · rw [up_ne (by omega), smz_up h0 (by omega)]
      omega
theorem smz_inz {j v : Int} : ∀ {n : Nat}, 0 ≤ j → j ≤ n → smz (inz f j v) (n + 1) = smz f n + v
  | 0, h0, h1 => by
    have e : j = 0 := by omega
    subst e
    show 0 + inz f 0 v ((0 : Nat) : Int) = 0 + v
    rw [inz_eq (by omega)]
  | n + 1, h0, h1 => by
    by_cases e : j = ((n + 1 : Nat) : Int)
    · show smz (inz f j v) (n + 1) + inz f j v ((n + 1 : Nat) : Int) = _
      rw [inz_eq e.symm, smz_c (g := f) (fun k k0 k1 => inz_lt (by omega))]
    · show smz (inz f j v) (n + 1) + inz f j v ((n + 1 : Nat) : Int) = smz f n + f n + v
      rw [inz_gt (by omega), smz_inz h0 (by omega), show ((n + 1 : Nat) : Int) - 1 = n by omega]
      omega
theorem smz_dlz {j : Int} : ∀ {n : Nat}, 0 ≤ j → j ≤ n → smz (dlz f j) n = smz f (n + 1) - f j
  | 0, h0, h1 => by
    have e : j = 0 := by omega
    subst e
    show 0 = 0 + f ((0 : Nat) : Int) - f 0
    simp
  | n + 1, h0, h1 => by
    show smz (dlz f j) n + dlz f j n = smz f (n + 1) + f ((n + 1 : Nat) : Int) - f j
    by_cases e : j = ((n + 1 : Nat) : Int)
    · rw [dlz_lt (by omega), smz_c (g := f) (fun k k0 k1 => dlz_lt (by omega)), e]
      show smz f n + f n = smz f n + f n + _ - _
      omega
    · rw [dlz_ge (by omega), smz_dlz h0 (by omega), show (n : Int) + 1 = ((n + 1 : Nat) : Int) by omega]
      omega
theorem smz_sh {m : Nat} : ∀ {n : Nat}, smz f (m + n) = smz f m + smz (fun k => f (k + m)) n
  | 0 => by
    show smz f m = smz f m + 0
    omega
  | n + 1 => by
    show smz f (m + n) + f ((m + n : Nat) : Int) = smz f m + (smz (fun k => f (k + m)) n + f ((n : Int) + m))
    rw [smz_sh (n := n), show ((m + n : Nat) : Int) = (n : Int) + m by omega]
    omega
end SMZ
/-- the sum of what its nodes weigh -/
noncomputable def tw (w : Int → Int → Int) : Tr → Int := tr_rec (fun p n u0_ u1_ => w p n) (fun p n u0_ c r_  => w p n + smz (fun k => r_ k) n.toNat)
theorem tw_e1 (w : Int → Int → Int) (p n : Int) (u0_ : Int → Int) (u1_ : Int → Int) : tw w (.lf p n u0_ u1_) = (w p n) := rfl
theorem tw_e2 (w : Int → Int → Int) (p n : Int) (u0_ : Int → Int) (c : Int → Tr) : tw w (.br p n u0_ c) = (w p n + smz (fun k => tw w (c k)) n.toNat) := rfl
noncomputable def wt (q : Int) (p n : Int) : Int := (if n ≤ 2 then 0 else n - 2) + (if p = -1 then 0 else q)
noncomputable def cnt (t : Tr) : Int := tw (fun _ _ => 1) t
/-- how many nodes a change makes below the first; how much is renewed -/
noncomputable def mdz (key : Int) (g : Int → (Int → Int) → (Int → Int) → Tr) : Tr → Int := tr_rec (fun u0_ u1_ u2_ u3_ => 0) (fun u0_ n a c r_  => r_ (slt n a key) + (if tsz (chg key g (c (slt n a key))) = 5 then 1 else 0))
theorem mdz_e1 (key : Int) (g : Int → (Int → Int) → (Int → Int) → Tr) (u0_ u1_ : Int) (u2_ : Int → Int) (u3_ : Int → Int) : mdz key g (.lf u0_ u1_ u2_ u3_) = (0) := rfl
theorem mdz_e2 (key : Int) (g : Int → (Int → Int) → (Int → Int) → Tr) (u0_ n : Int) (a : Int → Int) (c : Int → Tr) : mdz key g (.br u0_ n a c) = (mdz key g (c (slt n a key)) + (if tsz (chg key g (c (slt n a key))) = 5 then 1 else 0)) := rfl
noncomputable def rnw (q key : Int) : Tr → Int := tr_rec (fun p u0_ u1_ u2_ => if p = -1 then 0 else q) (fun p n a c r_  => (if p = -1 then 0 else q) + r_ (slt n a key))
theorem rnw_e1 (q key : Int) (p u0_ : Int) (u1_ : Int → Int) (u2_ : Int → Int) : rnw q key (.lf p u0_ u1_ u2_) = (if p = -1 then 0 else q) := rfl
theorem rnw_e2 (q key : Int) (p n : Int) (a : Int → Int) (c : Int → Tr) : rnw q key (.br p n a c) = ((if p = -1 then 0 else q) + rnw q key (c (slt n a key))) := rfl
section CNT
variable {w : Int → Int → Int} {t : Tr} {h : Nat} {lo hi key q : Int} {g : Int → (Int → Int) → (Int → Int) → Tr}
theorem tw_0 (hw : ∀ p n, 0 ≤ w p n) : ∀ t, 0 ≤ tw w t := by
  intro t
  induction t using Tr_rc with
  | lf p n a b =>
    try dsimp only [tw_e1, tw_e2] at *
    exact hw p n
  | br p n a c ih =>
    try dsimp only [tw_e1, tw_e2] at *
    have := smz_0 (f := fun k => tw w (c k)) (n := n.toNat) (fun k _ _ => ih k)
    have := hw p n
    try simp only [tw_e1, tw_e2]
    omega
theorem wt_0 (hq : 0 ≤ q) : ∀ p n, 0 ≤ wt q p n := fun p n => by
  unfold wt
  split <;> split <;> omega
theorem rnw_0 (hq : 0 ≤ q) : ∀ t, 0 ≤ rnw q key t := by
  intro t
  induction t using Tr_rc with
  | lf p n a b =>
    try dsimp only [rnw_e1, rnw_e2] at *
    try simp only [rnw_e1, rnw_e2]
    split <;> omega
  | br p n a c ih =>
    try dsimp only [rnw_e1, rnw_e2] at *
    have := ih (slt n a key)
    try simp only [rnw_e1, rnw_e2]
    split <;> omega
theorem mdz_0 : ∀ t, 0 ≤ mdz key g t := by
  intro t
  induction t using Tr_rc with
  | lf p n a b =>
    try dsimp only [mdz_e1, mdz_e2] at *
    exact Int.le_refl _
  | br p n a c ih =>
    try dsimp only [mdz_e1, mdz_e2] at *
    have := ih (slt n a key)
    try simp only [mdz_e1, mdz_e2]
    split <;> omega
theorem tw_split (h5 : tsz t = 5) : tw (wt q) (fst3 t) + tw (wt q) (lst2 t) = tw (wt q) t - 2 := by
  cases t using Tr_cs with
  | lf p n a b =>
    try dsimp only [tsz_e1, tsz_e2, fst3_e1, fst3_e2, lst2_e1, lst2_e2, tw_e1, tw_e2] at *
    have e : n = 5 := h5
    subst e
    show wt q p 3 + wt q (-1) 2 = wt q p 5 - 2
    unfold wt
    split <;> simp <;> omega
  | br p n a c =>
    try dsimp only [tsz_e1, tsz_e2, fst3_e1, fst3_e2, lst2_e1, lst2_e2, tw_e1, tw_e2] at *
    have e : n = 5 := h5
    subst e
    have s := smz_sh (f := fun k => tw (wt q) (c k)) (m := 3) (n := 2)
    show wt q p 3 + smz (fun k => tw (wt q) (c k)) 3 + (wt q (-1) 2 + smz (fun k => tw (wt q) (c (k + 3))) 2) = wt q p 5 + smz (fun k => tw (wt q) (c k)) 5 - 2
    have s' : smz (fun k => tw (wt q) (c k)) 5 = smz (fun k => tw (wt q) (c k)) 3 + smz (fun k => tw (wt q) (c (k + 3))) 2 := s
    have e1 : wt q p 3 + wt q (-1) 2 = wt q p 5 - 2 := by
      unfold wt
      split <;> simp <;> omega
    omega
theorem tw_up {c : Int → Tr} {j : Int} : (fun k => tw w (up c j t k)) = up (fun k => tw w (c k)) j (tw w t) := by
  funext k
  unfold up
  split <;> rfl
theorem tw_inz {c : Int → Tr} {j : Int} : (fun k => tw w (inz c j t k)) = inz (fun k => tw w (c k)) j (tw w t) := by
  funext k
  unfold inz
  split
  · rfl
  · split <;> rfl
theorem tw_dlz {c : Int → Tr} {j : Int} : (fun k => tw w (dlz c j k)) = dlz (fun k => tw w (c k)) j := by
  funext k
  unfold dlz
  split <;> rfl
/-- a change makes few nodes -/
theorem chg_tw (hq : 0 ≤ q) (hg : ∀ n a b, 1 ≤ n → n ≤ 4 → tw (wt q) (g n a b) ≤ wt 0 (-1) n + 1) : ∀ {t : Tr} {h : Nat} {lo hi : Int}, Okt t h lo hi → tw (wt q) (chg key g t) + mdz key g t + rnw q key t ≤ tw (wt q) t + 1 := by
  intro t
  induction t using Tr_rc with
  | lf p n a b =>
    try dsimp only [tsz_e1, tsz_e2, Okt_e1, Okt_e2, fst3_e1, fst3_e2, lst2_e1, lst2_e2, chg_e1, chg_e2, tw_e1, tw_e2, mdz_e1, mdz_e2, rnw_e1, rnw_e2] at *
    rintro h lo hi ⟨e, n0, n1, o⟩
    have := hg n a b n0 n1
    have e1 : wt q p n = wt 0 (-1) n + (if p = -1 then 0 else q) := by
      unfold wt
      simp
    show tw (wt q) (g n a b) + 0 + (if p = -1 then 0 else q) ≤ wt q p n + 1
    omega
  | br p n a c ih =>
    try dsimp only [tsz_e1, tsz_e2, Okt_e1, Okt_e2, fst3_e1, fst3_e2, lst2_e1, lst2_e2, chg_e1, chg_e2, tw_e1, tw_e2, mdz_e1, mdz_e2, rnw_e1, rnw_e2] at *
    rintro h lo hi ⟨h', e, n0, n1, r⟩
    obtain ⟨s0, s1, s2, s3⟩ := slt_ok (n := n) (a := a) (key := key) n0
    try simp only [chg_e1, chg_e2, mdz_e1, mdz_e2, rnw_e1, rnw_e2]
    generalize slt n a key = j at *
    obtain ⟨r1, r2, r3⟩ := r j s0 s1
    have i1 := ih j r3
    have t0 := tw_0 (wt_0 hq) (chg key g (c j))
    generalize ht : chg key g (c j) = t' at *
    have m0 := mdz_0 (key := key) (g := g) (c j)
    have en : ((n.toNat : Nat) : Int) = n := by omega
    have eT : tw (wt q) (.br p n a c) = wt q p n + smz (fun k => tw (wt q) (c k)) n.toNat := rfl
    try rw [eT]
    unfold mend
    by_cases c0 : tsz t' = 0
    · rw [if_pos c0, if_neg (by omega)]
      show wt q (-1) (n - 1) + smz (fun k => tw (wt q) (dlz c j k)) (n - 1).toNat + _ + _ ≤ _
      rw [tw_dlz, smz_dlz s0 (by omega), show (n - 1).toNat + 1 = n.toNat by omega]
      have : wt q (-1) (n - 1) + (if p = -1 then 0 else q) ≤ wt q p n := by
        unfold wt
        split <;> simp <;> split <;> omega
      omega
    · rw [if_neg c0]
      by_cases c5 : tsz t' = 5
      · rw [if_pos c5, if_pos c5]
        have sp := tw_split (q := q) c5
        show wt q (-1) (n + 1) + smz (fun k => tw (wt q) (inz (up c j (fst3 t')) (j + 1) (lst2 t') k)) (n + 1).toNat + _ + _ ≤ _
        rw [tw_inz, show (n + 1).toNat = n.toNat + 1 by omega, smz_inz (by omega) (by omega), tw_up, smz_up s0 (by omega)]
        have : wt q (-1) (n + 1) + (if p = -1 then 0 else q) ≤ wt q p n + 1 := by
          unfold wt
          split <;> simp <;> split <;> omega
        omega
      · rw [if_neg c5, if_neg c5]
        show wt q (-1) n + smz (fun k => tw (wt q) (up c j t' k)) n.toNat + _ + _ ≤ _
        rw [tw_up, smz_up s0 (by omega)]
        have : wt q (-1) n + (if p = -1 then 0 else q) ≤ wt q p n := by
          unfold wt
          split <;> simp <;> split <;> omega
        omega
theorem cnt_h : ∀ {t : Tr} {h : Nat} {lo hi : Int}, Okt t h lo hi → (h : Int) + 1 ≤ cnt t := by
  intro t
  induction t using Tr_rc with
  | lf p n a b =>
    try dsimp only [Okt_e1, Okt_e2] at *
    rintro h lo hi ⟨e, n0, n1, o⟩
    subst e
    exact Int.le_refl _
  | br p n a c ih =>
    try dsimp only [Okt_e1, Okt_e2] at *
    rintro h lo hi ⟨h', e, n0, n1, r⟩
    obtain ⟨r1, r2, r3⟩ := r 0 (by omega) (by omega)
    have i0 := ih 0 r3
    have s := smz_sh (f := fun k => cnt (c k)) (m := 1) (n := n.toNat - 1)
    have z := smz_0 (f := fun k => cnt (c (k + 1))) (n := n.toNat - 1) (fun k _ _ => tw_0 (fun _ _ => by omega) _)
    show _ ≤ 1 + smz (fun k => cnt (c k)) n.toNat
    rw [show n.toNat = 1 + (n.toNat - 1) by omega, s]
    show _ ≤ 1 + (0 + cnt (c ((0 : Nat) : Int)) + smz (fun k => cnt (c (k + 1))) (n.toNat - 1))
    have : cnt (c ((0 : Nat) : Int)) = cnt (c 0) := rfl
    omega
/-- as many nodes has a tree whose first node is to be split -/
noncomputable def fulw : Nat → Int
  | 0 => 1
  | h + 1 => fulw h + 3 * (h + 1) + 1
theorem cnt_full (hg : ∀ n a b, 1 ≤ n → n ≤ 4 → tsz (g n a b) = 5 → n = 4) : ∀ {t : Tr} {h : Nat} {lo hi : Int}, Okt t h lo hi → tsz (chg key g t) = 5 → fulw h ≤ cnt t := by
  intro t
  induction t using Tr_rc with
  | lf p n a b =>
    try dsimp only [tsz_e1, tsz_e2, Okt_e1, Okt_e2, chg_e1, chg_e2] at *
    rintro h lo hi ⟨e, n0, n1, o⟩ h5
    subst e
    exact Int.le_refl _
  | br p n a c ih =>
    try dsimp only [tsz_e1, tsz_e2, Okt_e1, Okt_e2, chg_e1, chg_e2] at *
    rintro h lo hi ⟨h', e, n0, n1, r⟩ h5
    subst e
    obtain ⟨s0, s1, s2, s3⟩ := slt_ok (n := n) (a := a) (key := key) n0
    try simp only [chg_e1, chg_e2] at h5
    generalize slt n a key = j at *
    unfold mend at h5
    by_cases c0 : tsz (chg key g (c j)) = 0
    · rw [if_pos c0] at h5
      have : n - 1 = 5 := h5
      omega
    · rw [if_neg c0] at h5
      by_cases c5 : tsz (chg key g (c j)) = 5
      · rw [if_pos c5] at h5
        have en : n + 1 = 5 := h5
        have en : n = 4 := by omega
        subst en
        have ij := ih j (r j s0 s1).2.2 c5
        have k0 := cnt_h (r 0 (by omega) (by omega)).2.2
        have k1 := cnt_h (r 1 (by omega) (by omega)).2.2
        have k2 := cnt_h (r 2 (by omega) (by omega)).2.2
        have k3 := cnt_h (r 3 (by omega) (by omega)).2.2
        show fulw h' + 3 * (h' + 1) + 1 ≤ 1 + (0 + cnt (c 0) + cnt (c 1) + cnt (c 2) + cnt (c 3))
        obtain e | e | e | e : j = 0 ∨ j = 1 ∨ j = 2 ∨ j = 3 := by omega
        all_goals
          rw [e] at ij
          omega
      · rw [if_neg c5] at h5
        have : n = 5 := h5
        omega
theorem tw_le3 (hq : q = 0 ∨ q = 1) : ∀ {t : Tr} {h : Nat} {lo hi : Int}, Okt t h lo hi → tw (wt q) t ≤ 2 * cnt t + q * cnt t := by
  intro t
  induction t using Tr_rc with
  | lf p n a b =>
    try dsimp only [Okt_e1, Okt_e2, tw_e1, tw_e2] at *
    rintro h lo hi ⟨e, n0, n1, o⟩
    show wt q p n ≤ 2 * 1 + q * 1
    unfold wt
    split <;> split <;> omega
  | br p n a c ih =>
    try dsimp only [Okt_e1, Okt_e2, tw_e1, tw_e2] at *
    rintro h lo hi ⟨h', e, n0, n1, r⟩
    have i1 := smz_le (f := fun k => tw (wt q) (c k)) (g := fun k => 2 * cnt (c k) + q * cnt (c k)) (n := n.toNat) (fun k k0 k1 => ih k (r k k0 (by omega)).2.2)
    have i2 : ∀ m : Nat, smz (fun k => 2 * cnt (c k) + q * cnt (c k)) m = 2 * smz (fun k => cnt (c k)) m + q * smz (fun k => cnt (c k)) m := fun m => by
      induction m with
      | zero => simp [smz]
      | succ m im =>
        unfold smz
        rw [im]
        rcases hq with e | e <;> subst e <;> omega
    rw [i2] at i1
    show wt q p n + smz (fun k => tw (wt q) (c k)) n.toNat ≤ 2 * (1 + smz (fun k => cnt (c k)) n.toNat) + q * (1 + smz (fun k => cnt (c k)) n.toNat)
    have : wt q p n ≤ 2 + q := by
      unfold wt
      split <;> split <;> omega
    rcases hq with e | e <;> subst e <;> omega
end CNT
