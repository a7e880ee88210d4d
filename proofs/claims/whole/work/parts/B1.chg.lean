/-! TREES off the disk: a key put or removed -/
section UPS
variable {α : Type} {f : Int → α} {j k : Int} {v : α}
theorem up_eq (h : k = j) : up f j v k = v := if_pos h
theorem up_ne (h : k ≠ j) : up f j v k = f k := if_neg h
theorem inz_lt (h : k < j) : inz f j v k = f k := if_pos h
theorem inz_eq (h : k = j) : inz f j v k = v := by
  unfold inz
  rw [if_neg (by omega), if_pos h]
theorem inz_gt (h : j < k) : inz f j v k = f (k - 1) := by
  unfold inz
  rw [if_neg (by omega), if_neg (by omega)]
theorem dlz_lt (h : k < j) : dlz f j k = f k := if_pos h
theorem dlz_ge (h : j ≤ k) : dlz f j k = f (k + 1) := if_neg (by omega)
end UPS
noncomputable def fst3 : Tr → Tr := tr_rec (fun p u0_ a b => .lf p 3 a b) (fun p u0_ a c r_  => .br p 3 a c)
theorem fst3_e1 (p u0_ : Int) (a : Int → Int) (b : Int → Int) : fst3 (.lf p u0_ a b) = (.lf p 3 a b) := rfl
theorem fst3_e2 (p u0_ : Int) (a : Int → Int) (c : Int → Tr) : fst3 (.br p u0_ a c) = (.br p 3 a c) := rfl
noncomputable def lst2 : Tr → Tr := tr_rec (fun u0_ u1_ a b => .lf (-1) 2 (fun k => a (k + 3)) (fun k => b (k + 3))) (fun u0_ u1_ a c r_  => .br (-1) 2 (fun k => a (k + 3)) (fun k => c (k + 3)))
theorem lst2_e1 (u0_ u1_ : Int) (a : Int → Int) (b : Int → Int) : lst2 (.lf u0_ u1_ a b) = (.lf (-1) 2 (fun k => a (k + 3)) (fun k => b (k + 3))) := rfl
theorem lst2_e2 (u0_ u1_ : Int) (a : Int → Int) (c : Int → Tr) : lst2 (.br u0_ u1_ a c) = (.br (-1) 2 (fun k => a (k + 3)) (fun k => c (k + 3))) := rfl
/-- a branch behind a change of its row j -/
noncomputable def mend (p n : Int) (a : Int → Int) (c : Int → Tr) (j : Int) (t : Tr) : Tr :=
  if tsz t = 0 then .br p (n - 1) (dlz a j) (dlz c j)
  else if tsz t = 5 then .br p (n + 1) (inz (up a j (tlst t)) (j + 1) (tlst (lst2 t))) (inz (up c j (fst3 t)) (j + 1) (lst2 t))
  else .br p n (up a j (tlst t)) (up c j t)
/-- a change of the leaf of a key, and of all above it -/
noncomputable def chg (key : Int) (g : Int → (Int → Int) → (Int → Int) → Tr) : Tr → Tr := tr_rec (fun u0_ n a b => g n a b) (fun u0_ n a c r_  => mend (-1) n a c (slt n a key) (r_ (slt n a key)))
theorem chg_e1 (key : Int) (g : Int → (Int → Int) → (Int → Int) → Tr) (u0_ n : Int) (a : Int → Int) (b : Int → Int) : chg key g (.lf u0_ n a b) = (g n a b) := rfl
theorem chg_e2 (key : Int) (g : Int → (Int → Int) → (Int → Int) → Tr) (u0_ n : Int) (a : Int → Int) (c : Int → Tr) : chg key g (.br u0_ n a c) = (mend (-1) n a c (slt n a key) (chg key g (c (slt n a key)))) := rfl
noncomputable def gPut (key v : Int) (n : Int) (a b : Int → Int) : Tr := .lf (-1) (n + 1) (inz a (plz n a key) key) (inz b (plz n a key) v)
noncomputable def gSet (key v : Int) (n : Int) (a b : Int → Int) : Tr := .lf (-1) n a (up b (plz n a key) v)
noncomputable def gDel (key : Int) (n : Int) (a b : Int → Int) : Tr := .lf (-1) (n - 1) (dlz a (plz n a key)) (dlz b (plz n a key))
/-- the leaf of a key -/
noncomputable def leaf (key : Int) : Tr → Tr := tr_rec (fun p n a b => .lf p n a b) (fun u0_ n a c r_  => r_ (slt n a key))
theorem leaf_e1 (key : Int) (p n : Int) (a : Int → Int) (b : Int → Int) : leaf key (.lf p n a b) = (.lf p n a b) := rfl
theorem leaf_e2 (key : Int) (u0_ n : Int) (a : Int → Int) (c : Int → Tr) : leaf key (.br u0_ n a c) = (leaf key (c (slt n a key))) := rfl
noncomputable def atL (key : Int) (Q : Int → (Int → Int) → (Int → Int) → Prop) : Tr → Prop := tr_rec (fun u0_ n a b => Q n a b) (fun u0_ n a c r_  => r_ (slt n a key))
theorem atL_e1 (key : Int) (Q : Int → (Int → Int) → (Int → Int) → Prop) (u0_ n : Int) (a : Int → Int) (b : Int → Int) : atL key Q (.lf u0_ n a b) = (Q n a b) := rfl
theorem atL_e2 (key : Int) (Q : Int → (Int → Int) → (Int → Int) → Prop) (u0_ n : Int) (a : Int → Int) (c : Int → Tr) : atL key Q (.br u0_ n a c) = (atL key Q (c (slt n a key))) := rfl
abbrev hasL (key : Int) (n : Int) (a _b : Int → Int) : Prop := plz n a key < n ∧ a (plz n a key) = key
noncomputable def valK (key : Int) : Tr → Int := tr_rec (fun u0_ n a b => b (plz n a key)) (fun u0_ n a c r_  => r_ (slt n a key))
theorem valK_e1 (key : Int) (u0_ n : Int) (a : Int → Int) (b : Int → Int) : valK key (.lf u0_ n a b) = (b (plz n a key)) := rfl
theorem valK_e2 (key : Int) (u0_ n : Int) (a : Int → Int) (c : Int → Tr) : valK key (.br u0_ n a c) = (valK key (c (slt n a key))) := rfl
section CHG
variable {t : Tr} {h : Nat} {lo hi lo' hi' key v : Int} {n p : Int} {a b : Int → Int} {c : Int → Tr}
theorem OkR_split (o : OkR t h lo hi) (e : tsz t = 5) : Okt (fst3 t) h lo (tlst (lst2 t)) ∧ Okt (lst2 t) h (tlst (lst2 t)) hi ∧ tlst (fst3 t) = tlst t ∧ lo ≤ tlst (lst2 t) := by
  cases t using Tr_cs with
  | lf p n a b =>
    try dsimp only [tsz_e1, tsz_e2, tlst_e1, tlst_e2, Okt_e1, Okt_e2, OkR_e1, OkR_e2, fst3_e1, fst3_e2, lst2_e1, lst2_e2] at *
    obtain ⟨e0, n0, n1, o1, o2⟩ := o
    have en : n = 5 := e
    have u := fun {k : Int} (k0 : 0 ≤ k) (k1 : k < 3) => up_le o2 (i := k) (k := 2) k0 (by omega) (by omega)
    have u3 := o2 2 (by omega) (by omega)
    try dsimp only [tsz_e1, tsz_e2, tlst_e1, tlst_e2, Okt_e1, Okt_e2, OkR_e1, OkR_e2, fst3_e1, fst3_e2, lst2_e1, lst2_e2]
    refine ⟨⟨e0, by omega, by omega, fun k k0 k1 => ?_, fun k k0 k1 => o2 k k0 (by omega)⟩, ⟨e0, by omega, by omega, fun k k0 k1 => ?_, fun k k0 k1 => ?_⟩, rfl, (o1 3 (by omega) (by omega)).1⟩
    · have := o1 k k0 (by omega)
      have := u k0 k1
      show lo ≤ a k ∧ a k < a (0 + 3) ∧ _
      rw [show (0 : Int) + 3 = 2 + 1 by omega]
      omega
    · exact ⟨up_le o2 (i := 3) (k := k + 3) (by omega) (by omega) (by omega), (o1 (k + 3) (by omega) (by omega)).2⟩
    · have := o2 (k + 3) (by omega) (by omega)
      show a (k + 3) < a (k + 1 + 3)
      rw [show k + 1 + 3 = k + 3 + 1 by omega]
      exact this
  | br p n a c =>
    try dsimp only [tsz_e1, tsz_e2, tlst_e1, tlst_e2, Okt_e1, Okt_e2, OkR_e1, OkR_e2, fst3_e1, fst3_e2, lst2_e1, lst2_e2] at *
    have oR : OkR (.br p n a c) h lo hi := o
    obtain ⟨h', e0, n0, n1, r⟩ := o
    have en : n = 5 := e
    have u := fun k k0 k1 => OkR_up oR (k := k) k0 k1
    try dsimp only [tsz_e1, tsz_e2, tlst_e1, tlst_e2, Okt_e1, Okt_e2, OkR_e1, OkR_e2, fst3_e1, fst3_e2, lst2_e1, lst2_e2]
    refine ⟨⟨h', e0, by omega, by omega, fun k k0 k1 => ?_⟩, ⟨h', e0, by omega, by omega, fun k k0 k1 => ?_⟩, rfl, (r 3 (by omega) (by omega)).1⟩
    · obtain ⟨r1, r2, r3⟩ := r k k0 (by omega)
      try dsimp only [tsz_e1, tsz_e2, tlst_e1, tlst_e2, Okt_e1, Okt_e2, OkR_e1, OkR_e2, fst3_e1, fst3_e2, lst2_e1, lst2_e2]
      refine ⟨r1, r2, ?_⟩
      rw [if_pos (by omega)] at r3
      by_cases c1 : k + 1 < 3
      · rw [if_pos c1]
        exact r3
      · rw [if_neg c1]
        show Okt (c k) h' (a k) (a (0 + 3))
        rw [show (0 : Int) + 3 = k + 1 by omega]
        exact r3
    · obtain ⟨r1, r2, r3⟩ := r (k + 3) (by omega) (by omega)
      have := up_le u (i := 3) (k := k + 3) (by omega) (by omega) (by omega)
      try dsimp only [tsz_e1, tsz_e2, tlst_e1, tlst_e2, Okt_e1, Okt_e2, OkR_e1, OkR_e2, fst3_e1, fst3_e2, lst2_e1, lst2_e2]
      refine ⟨this, r2, ?_⟩
      show Okt (c (k + 3)) h' (a (k + 3)) (if k + 1 < 2 then a (k + 1 + 3) else hi)
      by_cases c1 : k + 1 < 2
      · rw [if_pos c1]
        rw [if_pos (by omega)] at r3
        rw [show k + 1 + 3 = k + 3 + 1 by omega]
        exact r3
      · rw [if_neg c1]
        rw [if_neg (by omega)] at r3
        exact r3
theorem chg_ok {g : Int → (Int → Int) → (Int → Int) → Tr} {Q : Int → (Int → Int) → (Int → Int) → Prop} (hg : ∀ n a b lo hi, 1 ≤ n → n ≤ 4 → OkL n a b lo hi → lo ≤ key → key < hi → Q n a b → OkR (g n a b) 0 lo hi) : ∀ {t : Tr} {h : Nat} {lo hi : Int}, Okt t h lo hi → lo ≤ key → key < hi → atL key Q t → OkR (chg key g t) h lo hi := by
  intro t
  induction t using Tr_rc with
  | lf p n a b =>
    try dsimp only [tsz_e1, tsz_e2, tlst_e1, tlst_e2, Okt_e1, Okt_e2, OkR_e1, OkR_e2, chg_e1, chg_e2, atL_e1, atL_e2] at *
    rintro h lo hi ⟨e, n0, n1, o⟩ k0 k1 hq
    subst e
    exact hg n a b lo hi n0 n1 o k0 k1 hq
  | br p n a c ih =>
    try dsimp only [tsz_e1, tsz_e2, tlst_e1, tlst_e2, Okt_e1, Okt_e2, OkR_e1, OkR_e2, chg_e1, chg_e2, atL_e1, atL_e2] at *
    intro h lo hi o k0 k1 hq
    have hq : atL key Q (c (slt n a key)) := hq
    have oR := (Okt_R (t := .br p n a c) o).1
    have u := fun k k0 k1 => OkR_up oR (k := k) k0 k1
    obtain ⟨h', e, n0, n1, r⟩ := o
    obtain ⟨s0, s1, s2, s3⟩ := slt_ok (n := n) (a := a) (key := key) n0
    try simp only [chg_e1, chg_e2]
    generalize slt n a key = j at *
    obtain ⟨r1, r2, r3⟩ := r j s0 s1
    have lj : (if j = 0 then lo else a j) ≤ tlst (c j) := by
      rw [r2]
      split <;> omega
    have o' := ih j (Okt_lo r3 lj) (by split <;> omega) (by split <;> omega) hq
    generalize hlj : (if j = 0 then lo else a j) = L at *
    have hL1 : lo ≤ L := by rw [← hlj]; split <;> omega
    have hL2 : 0 < j → L = a j := fun x => by rw [← hlj, if_neg (by omega)]
    generalize ht : chg key g (c j) = t' at *
    have hhi : ∀ x, 0 ≤ x → x < n → a x < hi := fun x x0 x1 => by
      obtain ⟨q1, q2, q3⟩ := r (n - 1) (by omega) (by omega)
      rw [if_neg (by omega)] at q3
      have := Okt_lt q3
      have := up_le u (i := x) (k := n - 1) x0 (by omega) (by omega)
      omega
    unfold mend
    by_cases c0 : tsz t' = 0
    · rw [if_pos c0]
      try dsimp only [tsz_e1, tsz_e2, tlst_e1, tlst_e2, Okt_e1, Okt_e2, OkR_e1, OkR_e2, chg_e1, chg_e2, atL_e1, atL_e2]
      refine ⟨h', e, by omega, by omega, fun k k0' k1' => ?_⟩
      by_cases kj : k < j
      · rw [dlz_lt kj, dlz_lt kj]
        obtain ⟨q1, q2, q3⟩ := r k k0' (by omega)
        rw [if_pos (by omega)] at q3
        try dsimp only [tsz_e1, tsz_e2, tlst_e1, tlst_e2, Okt_e1, Okt_e2, OkR_e1, OkR_e2, chg_e1, chg_e2, atL_e1, atL_e2]
        refine ⟨q1, q2, Okt_hi q3 ?_⟩
        by_cases c2 : k + 1 < n - 1
        · rw [if_pos c2]
          by_cases c3 : k + 1 < j
          · rw [dlz_lt c3]
            omega
          · rw [dlz_ge (by omega)]
            have := u (k + 1) (by omega) (by omega)
            omega
        · rw [if_neg c2]
          have := hhi (k + 1) (by omega) (by omega)
          omega
      · rw [dlz_ge (by omega), dlz_ge (by omega)]
        obtain ⟨q1, q2, q3⟩ := r (k + 1) (by omega) (by omega)
        try dsimp only [tsz_e1, tsz_e2, tlst_e1, tlst_e2, Okt_e1, Okt_e2, OkR_e1, OkR_e2, chg_e1, chg_e2, atL_e1, atL_e2]
        refine ⟨q1, q2, ?_⟩
        by_cases c2 : k + 1 < n - 1
        · rw [if_pos c2, dlz_ge (by omega)]
          rw [if_pos (by omega)] at q3
          exact q3
        · rw [if_neg c2]
          rw [if_neg (by omega)] at q3
          exact q3
    · rw [if_neg c0]
      by_cases c5 : tsz t' = 5
      · rw [if_pos c5]
        obtain ⟨p1, p2, p3, p4⟩ := OkR_split o' c5
        have l1 := Okt_lst p1
        rw [p3] at l1
        have l1t := Okt_lt p1
        rw [p3] at l1t
        have l2t := Okt_lt p2
        try dsimp only [tsz_e1, tsz_e2, tlst_e1, tlst_e2, Okt_e1, Okt_e2, OkR_e1, OkR_e2, chg_e1, chg_e2, atL_e1, atL_e2]
        refine ⟨h', e, by omega, by omega, fun k k0' k1' => ?_⟩
        by_cases kj : k < j
        · rw [inz_lt (by omega), inz_lt (by omega), up_ne (by omega), up_ne (by omega)]
          obtain ⟨q1, q2, q3⟩ := r k k0' (by omega)
          rw [if_pos (by omega)] at q3
          try dsimp only [tsz_e1, tsz_e2, tlst_e1, tlst_e2, Okt_e1, Okt_e2, OkR_e1, OkR_e2, chg_e1, chg_e2, atL_e1, atL_e2]
          refine ⟨q1, q2, Okt_hi q3 ?_⟩
          rw [if_pos (by omega), inz_lt (by omega)]
          by_cases c3 : k + 1 = j
          · rw [up_eq c3, c3]
            have := hL2 (by omega)
            omega
          · rw [up_ne c3]
            omega
        · by_cases kj : k = j
          · rw [inz_lt (by omega), inz_lt (by omega), up_eq kj, up_eq kj]
            try dsimp only [tsz_e1, tsz_e2, tlst_e1, tlst_e2, Okt_e1, Okt_e2, OkR_e1, OkR_e2, chg_e1, chg_e2, atL_e1, atL_e2]
            refine ⟨by omega, p3, ?_⟩
            rw [if_pos (by omega), inz_eq (by omega)]
            exact Okt_lo p1 (by omega)
          · by_cases kj1 : k = j + 1
            · rw [inz_eq kj1, inz_eq kj1]
              try dsimp only [tsz_e1, tsz_e2, tlst_e1, tlst_e2, Okt_e1, Okt_e2, OkR_e1, OkR_e2, chg_e1, chg_e2, atL_e1, atL_e2]
              refine ⟨by omega, rfl, ?_⟩
              by_cases c2 : j + 1 < n
              · rw [if_pos (by omega), inz_gt (by omega), up_ne (by omega), kj1, show j + 1 + 1 - 1 = j + 1 by omega]
                rw [if_pos c2] at p2
                exact p2
              · rw [if_neg (by omega)]
                rw [if_neg c2] at p2
                exact p2
            · rw [inz_gt (by omega), inz_gt (by omega), up_ne (by omega), up_ne (by omega)]
              obtain ⟨q1, q2, q3⟩ := r (k - 1) (by omega) (by omega)
              try dsimp only [tsz_e1, tsz_e2, tlst_e1, tlst_e2, Okt_e1, Okt_e2, OkR_e1, OkR_e2, chg_e1, chg_e2, atL_e1, atL_e2]
              refine ⟨q1, q2, ?_⟩
              by_cases c2 : k < n
              · rw [if_pos (by omega), inz_gt (by omega), up_ne (by omega), show k + 1 - 1 = k - 1 + 1 by omega]
                rw [if_pos (by omega)] at q3
                exact q3
              · rw [if_neg (by omega)]
                rw [if_neg (by omega)] at q3
                exact q3
      · rw [if_neg c5]
        have z := o'
        have sz : 0 ≤ tsz t' ∧ tsz t' ≤ 5 := by
          cases t' using Tr_cs with
          | lf _ _ _ _ =>
            try dsimp only [tsz_e1, tsz_e2, tlst_e1, tlst_e2, Okt_e1, Okt_e2, OkR_e1, OkR_e2, chg_e1, chg_e2, atL_e1, atL_e2] at *
            exact ⟨z.2.1, z.2.2.1⟩
          | br _ _ _ _ =>
            try dsimp only [tsz_e1, tsz_e2, tlst_e1, tlst_e2, Okt_e1, Okt_e2, OkR_e1, OkR_e2, chg_e1, chg_e2, atL_e1, atL_e2] at *
            obtain ⟨_, _, z1, z2, _⟩ := z
            exact ⟨z1, z2⟩
        have o'' := OkR_t o' (by omega) (by omega)
        have l1 := Okt_lst o''
        try dsimp only [tsz_e1, tsz_e2, tlst_e1, tlst_e2, Okt_e1, Okt_e2, OkR_e1, OkR_e2, chg_e1, chg_e2, atL_e1, atL_e2]
        refine ⟨h', e, by omega, by omega, fun k k0' k1' => ?_⟩
        by_cases kj : k = j
        · rw [up_eq kj, up_eq kj]
          try dsimp only [tsz_e1, tsz_e2, tlst_e1, tlst_e2, Okt_e1, Okt_e2, OkR_e1, OkR_e2, chg_e1, chg_e2, atL_e1, atL_e2]
          refine ⟨by omega, rfl, ?_⟩
          rw [kj]
          by_cases c2 : j + 1 < n
          · rw [if_pos c2, up_ne (by omega)]
            rw [if_pos c2] at o''
            exact Okt_lo o'' (Int.le_refl _)
          · rw [if_neg c2]
            rw [if_neg c2] at o''
            exact Okt_lo o'' (Int.le_refl _)
        · rw [up_ne kj, up_ne kj]
          obtain ⟨q1, q2, q3⟩ := r k k0' (by omega)
          try dsimp only [tsz_e1, tsz_e2, tlst_e1, tlst_e2, Okt_e1, Okt_e2, OkR_e1, OkR_e2, chg_e1, chg_e2, atL_e1, atL_e2]
          refine ⟨q1, q2, Okt_hi q3 ?_⟩
          by_cases c2 : k + 1 < n
          · rw [if_pos c2, if_pos c2]
            by_cases c3 : k + 1 = j
            · rw [up_eq c3, c3]
              have := hL2 (by omega)
              omega
            · rw [up_ne c3]
              omega
          · rw [if_neg c2, if_neg c2]
            omega
theorem gPut_ok (v0 : 0 ≤ v) (v1 : v < 100) : ∀ n a b lo hi, 1 ≤ n → n ≤ 4 → OkL n a b lo hi → lo ≤ key → key < hi → ¬ hasL key n a b → OkR (gPut key v n a b) 0 lo hi := by
  intro n a b lo hi n0 n1 o k0 k1 hk
  obtain ⟨p0, p1, p2, p3⟩ := plz_ok (n := n) (a := a) (key := key) (by omega)
  unfold hasL at hk
  unfold gPut
  rw [OkR_e1]
  generalize plz n a key = i at *
  try dsimp only [OkR_e1, OkR_e2]
  refine ⟨rfl, by omega, by omega, fun k z0 z1 => ?_, fun k z0 z1 => ?_⟩
  · by_cases c1 : k < i
    · rw [inz_lt c1, inz_lt c1]
      exact o.1 k z0 (by omega)
    · by_cases c2 : k = i
      · rw [inz_eq c2, inz_eq c2]
        exact ⟨k0, k1, v0, v1⟩
      · rw [inz_gt (by omega), inz_gt (by omega)]
        exact o.1 (k - 1) (by omega) (by omega)
  · by_cases c1 : k + 1 < i
    · rw [inz_lt c1, inz_lt (by omega)]
      exact o.2 k z0 (by omega)
    · by_cases c2 : k + 1 = i
      · rw [inz_eq c2, inz_lt (by omega)]
        exact p2 k z0 (by omega)
      · by_cases c3 : k = i
        · rw [inz_eq c3, inz_gt (by omega), c3, show i + 1 - 1 = i by omega]
          have := p3 (by omega)
          have : a i ≠ key := fun x => hk ⟨by omega, x⟩
          omega
        · rw [inz_gt (by omega), inz_gt (by omega), show k + 1 - 1 = k - 1 + 1 by omega]
          exact o.2 (k - 1) (by omega) (by omega)
theorem gSet_ok (v0 : 0 ≤ v) (v1 : v < 100) : ∀ n a b lo hi, 1 ≤ n → n ≤ 4 → OkL n a b lo hi → lo ≤ key → key < hi → hasL key n a b → OkR (gSet key v n a b) 0 lo hi := by
  intro n a b lo hi n0 n1 o k0 k1 _
  unfold gSet
  rw [OkR_e1]
  try dsimp only [OkR_e1, OkR_e2]
  refine ⟨rfl, by omega, by omega, fun k z0 z1 => ?_, o.2⟩
  have := o.1 k z0 z1
  by_cases c : k = plz n a key
  · rw [up_eq c]
    omega
  · rw [up_ne c]
    exact this
theorem gDel_ok : ∀ n a b lo hi, 1 ≤ n → n ≤ 4 → OkL n a b lo hi → lo ≤ key → key < hi → hasL key n a b → OkR (gDel key n a b) 0 lo hi := by
  intro n a b lo hi n0 n1 o k0 k1 _
  obtain ⟨p0, p1, p2, p3⟩ := plz_ok (n := n) (a := a) (key := key) (by omega)
  unfold gDel
  rw [OkR_e1]
  generalize plz n a key = i at *
  try dsimp only [OkR_e1, OkR_e2]
  refine ⟨rfl, by omega, by omega, fun k z0 z1 => ?_, fun k z0 z1 => ?_⟩
  · by_cases c1 : k < i
    · rw [dlz_lt c1, dlz_lt c1]
      exact o.1 k z0 (by omega)
    · rw [dlz_ge (by omega), dlz_ge (by omega)]
      exact o.1 (k + 1) (by omega) (by omega)
  · by_cases c1 : k + 1 < i
    · rw [dlz_lt c1, dlz_lt (by omega)]
      exact o.2 k z0 (by omega)
    · by_cases c2 : k < i
      · rw [dlz_lt c2, dlz_ge (by omega)]
        have := o.2 k z0 (by omega)
        have := o.2 (k + 1) (by omega) (by omega)
        omega
      · rw [dlz_ge (by omega), dlz_ge (by omega)]
        exact o.2 (k + 1) (by omega) (by omega)
end CHG
