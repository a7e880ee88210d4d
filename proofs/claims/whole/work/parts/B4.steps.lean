/-! TREES off the disk: a change of rows, and what it makes of the tree -/
noncomputable def Sub (D : Ar) (N : Int) (t : Tr) (x : Int) : Prop := Rep D t x ∧ Dis D t x ∧ ∀ y, Wi D t x y → 2 ≤ y ∧ y < N
/-- beneath a node all may have changed, and nowhere else -/
noncomputable def Chd (D : Ar) (N : Int) (t : Tr) (x : Int) (D' : Ar) (N' : Int) (t' : Tr) (x' : Int) : Prop := Sub D' N' t' x' ∧ N ≤ N' ∧ (∀ y, Wi D' t' x' y → Wi D t x y ∨ N ≤ y) ∧ ∀ y, y < N → ¬ Wi D t x y → Row D D' y
section STP
variable {D D0 D1 D2 : Ar} {N N0 N1 N2 : Int} {t t' : Tr} {x y p n j : Int} {a : Int → Int} {c : Int → Tr}
theorem Chd_refl (S : Sub D N t x) : Chd D N t x D N t x := ⟨S, Int.le_refl _, fun _ h => Or.inl h, fun _ _ _ => Row_refl⟩
theorem Sub_kid (S : Sub D N (.br p n a c) x) {k : Int} (k0 : 0 ≤ k) (k1 : k < n) : Sub D N (c k) (D.B x k) := ⟨(S.1.2.2.2.2.2 k k0 k1).2, (S.2.1 k k0 k1).1, fun y hy => S.2.2 y (Or.inr ⟨k, k0, k1, hy⟩)⟩
theorem Sub_R2 (S : Sub D N (.br p n a c) x) : D.K x = 2 ∧ D.R x = n ∧ 0 ≤ n ∧ n ≤ 5 ∧ Pgs D x p ∧ ∀ k, 0 ≤ k → k < n → D.A x k = a k ∧ Rep D (c k) (D.B x k) := S.1
theorem Sub_R1 {b : Int → Int} (S : Sub D N (.lf p n a b) x) : D.K x = 1 ∧ D.R x = n ∧ 0 ≤ n ∧ n ≤ 5 ∧ Pgs D x p ∧ ∀ k, 0 ≤ k → k < n → D.A x k = a k ∧ D.B x k = b k := S.1
/-- what stays as it was -/
theorem Chd_sib (S : Sub D0 N0 (.br p n a c) x) (j0 : 0 ≤ j) (j1 : j < n) (C : Chd D0 N0 (c j) (D0.B x j) D1 N1 t' y) : Row D0 D1 x ∧ x < N0 ∧ ∀ k, 0 ≤ k → k < n → k ≠ j → ∀ z, Wi D0 (c k) (D0.B x k) z → Row D0 D1 z ∧ z < N0 ∧ z ≠ x := by
  have sx := S.2.2 x (Or.inl rfl)
  try dsimp only [Wi_e1, Wi_e2]
  refine ⟨C.2.2.2 x sx.2 (S.2.1 j j0 j1).2.1, sx.2, fun k k0 k1 kj z hz => ?_⟩
  have sz := S.2.2 z (Or.inr ⟨k, k0, k1, hz⟩)
  try dsimp only [Wi_e1, Wi_e2]
  refine ⟨C.2.2.2 z sz.2 ((S.2.1 k k0 k1).2.2 j j0 j1 kj z hz), sz.2, fun e => ?_⟩
  subst e
  exact (S.2.1 k k0 k1).2.1 hz
/-- a branch again, out of its rows -/
theorem mkbr {p' n' : Int} {a' : Int → Int} {c' : Int → Tr} {o : Int → Int} (S : Sub D0 N0 (.br p n a c) x) (hN : N0 ≤ N2) (hK : D2.K x = 2) (hR : D2.R x = n') (n0 : 0 ≤ n') (n1 : n' ≤ 5) (hp : Pgs D2 x p') (hA : ∀ k, 0 ≤ k → k < n' → D2.A x k = a' k) (hc : ∀ k, 0 ≤ k → k < n' → (0 ≤ o k ∧ o k < n) ∧ Rep D2 (c' k) (D2.B x k) ∧ Dis D2 (c' k) (D2.B x k) ∧ ∀ y, Wi D2 (c' k) (D2.B x k) y → Wi D0 (c (o k)) (D0.B x (o k)) y ∨ (o k = j ∧ N0 ≤ y ∧ y < N2)) (ho : ∀ k k', 0 ≤ k → k < n' → 0 ≤ k' → k' < n' → k ≠ k' → o k = o k' → ∀ y, Wi D2 (c' k) (D2.B x k) y → ¬ Wi D2 (c' k') (D2.B x k') y) (hf : ∀ y, y < N0 → ¬ Wi D0 (.br p n a c) x y → Row D0 D2 y) : Chd D0 N0 (.br p n a c) x D2 N2 (.br p' n' a' c') x := by
  have sx := S.2.2 x (Or.inl rfl)
  try dsimp only [Rep_e1, Rep_e2, Wi_e1, Wi_e2, Dis_e1, Dis_e2]
  refine ⟨⟨⟨hK, hR, n0, n1, hp, fun k k0 k1 => ⟨hA k k0 k1, (hc k k0 k1).2.1⟩⟩, fun k k0 k1 => ?_, fun y hy => ?_⟩, hN, fun y hy => ?_, hf⟩
  · obtain ⟨⟨o0, o1⟩, c1, c2, c3⟩ := hc k k0 k1
    try dsimp only [Rep_e1, Rep_e2, Wi_e1, Wi_e2, Dis_e1, Dis_e2]
    refine ⟨c2, fun hw => ?_, fun k' k0' k1' hk y hy hy' => ?_⟩
    · rcases c3 x hw with h | h
      · exact (S.2.1 _ o0 o1).2.1 h
      · omega
    · obtain ⟨⟨o0', o1'⟩, c1', c2', c3'⟩ := hc k' k0' k1'
      by_cases e : o k = o k'
      · exact ho k k' k0 k1 k0' k1' hk e y hy hy'
      · rcases c3 y hy with h | h
        · have := S.2.2 y (Or.inr ⟨_, o0, o1, h⟩)
          rcases c3' y hy' with h' | h'
          · exact (S.2.1 _ o0 o1).2.2 _ o0' o1' e y h h'
          · omega
        · rcases c3' y hy' with h' | h'
          · have := S.2.2 y (Or.inr ⟨_, o0', o1', h'⟩)
            omega
          · omega
  · rcases hy with e | ⟨k, k0, k1, hw⟩
    · rw [e]
      omega
    · obtain ⟨⟨o0, o1⟩, c1, c2, c3⟩ := hc k k0 k1
      rcases c3 y hw with h | h
      · have := S.2.2 y (Or.inr ⟨_, o0, o1, h⟩)
        omega
      · omega
  · rcases hy with e | ⟨k, k0, k1, hw⟩
    · exact Or.inl (Or.inl e)
    · obtain ⟨⟨o0, o1⟩, c1, c2, c3⟩ := hc k k0 k1
      rcases c3 y hw with h | h
      · exact Or.inl (Or.inr ⟨_, o0, o1, h⟩)
      · exact Or.inr h.2.1
/-- the least key is told anew -/
theorem stp_m (S : Sub D0 N0 (.br p n a c) x) (j0 : 0 ≤ j) (j1 : j < n) (C : Chd D0 N0 (c j) (D0.B x j) D1 N1 t' (D0.B x j)) (h2 : ∀ y, y ≠ x → Row D1 D2 y) (hx : D2.K x = D1.K x ∧ D2.R x = D1.R x ∧ D2.fr x = D1.fr x ∧ (∀ k, 0 ≤ k → k < 6 → D2.B x k = D1.B x k ∧ (k ≠ j → D2.A x k = D1.A x k)) ∧ D2.A x j = tlst t') : Chd D0 N0 (.br p n a c) x D2 N1 (.br p n (up a j (tlst t')) (up c j t')) x := by
  obtain ⟨rx, xN, sb⟩ := Chd_sib S j0 j1 C
  obtain ⟨h1, h1R, h10, h15, h1p, h1k⟩ := Sub_R2 S
  obtain ⟨x1, x2, x3, x4, x5⟩ := hx
  have eB : ∀ k, 0 ≤ k → k < 6 → D2.B x k = D0.B x k := fun k k0 k1 => (x4 k k0 k1).1.trans (rx.2.2.2 k k0 k1).2
  obtain ⟨⟨T1, T2, T3⟩, hN, TW, TF⟩ := C
  have nx : ∀ y, Wi D1 t' (D0.B x j) y → y ≠ x := fun y hy e => by
    subst e
    rcases TW y hy with h | h
    · exact (S.2.1 j j0 j1).2.1 h
    · omega
  obtain ⟨U1, U2, U3⟩ := Rep_fr T1 (fun y hy => h2 y (nx y hy))
  refine mkbr (j := j) (o := fun k => k) S hN (by rw [x1, rx.1, h1]) (by rw [x2, rx.2.1, h1R]) h10 h15 ?_ (fun k k0 k1 => ?_) (fun k k0 k1 => ⟨⟨k0, k1⟩, ?_⟩) (fun k k' _ _ _ _ hk e => absurd e hk) (fun y hy hw => ?_)
  · unfold Pgs at *
    rw [x3, rx.2.2.1]
    exact h1p
  · by_cases e : k = j
    · rw [up_eq e, e]
      exact x5
    · rw [up_ne e, (x4 k k0 (by omega)).2 e, (rx.2.2.2 k k0 (by omega)).1, (h1k k k0 k1).1]
  · rw [eB k k0 (by omega)]
    by_cases e : k = j
    · rw [up_eq e, e]
      try dsimp only [tlst_e1, tlst_e2, Wi_e1, Wi_e2]
      refine ⟨U1, U3 T2, fun y hy => ?_⟩
      have hy' := (U2 y).mp hy
      rcases TW y hy' with h | h
      · exact Or.inl h
      · exact Or.inr ⟨rfl, h, (T3 y hy').2⟩
    · rw [up_ne e]
      obtain ⟨V1, V2, V3⟩ := Rep_fr (D' := D2) (h1k k k0 k1).2 (fun y hy => Row_trans (sb k k0 k1 e y hy).1 (h2 y (sb k k0 k1 e y hy).2.2))
      exact ⟨V1, V3 (S.2.1 k k0 k1).1, fun y hy => Or.inl ((V2 y).mp hy)⟩
  · refine Row_trans (TF y hy (fun h => hw (Or.inr ⟨j, j0, j1, h⟩))) (h2 y (fun e => hw (Or.inl e)))
/-- a row is taken out -/
theorem stp_0 (S : Sub D0 N0 (.br p n a c) x) (j0 : 0 ≤ j) (j1 : j < n) (C : Chd D0 N0 (c j) (D0.B x j) D1 N1 t' (D0.B x j)) (h2 : ∀ y, y ≠ x → Row D1 D2 y) (hx : D2.K x = D1.K x ∧ D2.R x = n - 1 ∧ D2.fr x = D1.fr x ∧ ∀ k, 0 ≤ k → k < n - 1 → D2.A x k = dlz (D1.A x) j k ∧ D2.B x k = dlz (D1.B x) j k) : Chd D0 N0 (.br p n a c) x D2 N1 (.br p (n - 1) (dlz a j) (dlz c j)) x := by
  obtain ⟨rx, xN, sb⟩ := Chd_sib S j0 j1 C
  obtain ⟨h1, h1R, h10, h15, h1p, h1k⟩ := Sub_R2 S
  obtain ⟨x1, x2, x3, x4⟩ := hx
  have eB : ∀ k, 0 ≤ k → k < n - 1 → D2.B x k = D0.B x (if k < j then k else k + 1) := fun k k0 k1 => by
    rw [(x4 k k0 k1).2]
    by_cases e : k < j
    · rw [dlz_lt e, if_pos e, (rx.2.2.2 k k0 (by omega)).2]
    · rw [dlz_ge (by omega), if_neg e, (rx.2.2.2 (k + 1) (by omega) (by omega)).2]
  have ec : ∀ k, dlz c j k = c (if k < j then k else k + 1) := fun k => by
    unfold dlz
    split <;> rfl
  obtain ⟨⟨T1, T2, T3⟩, hN, TW, TF⟩ := C
  refine mkbr (j := j) (o := fun k => if k < j then k else k + 1) S hN (by rw [x1, rx.1, h1]) x2 (by omega) (by omega) ?_ (fun k k0 k1 => ?_) (fun k k0 k1 => ⟨by split <;> omega, ?_⟩) (fun k k' _ _ _ _ hk e => absurd e (by
    show (if k < j then k else k + 1) ≠ (if k' < j then k' else k' + 1)
    split <;> split <;> omega)) (fun y hy hw => ?_)
  · unfold Pgs at *
    rw [x3, rx.2.2.1]
    exact h1p
  · rw [(x4 k k0 k1).1]
    by_cases e : k < j
    · rw [dlz_lt e, dlz_lt e, (rx.2.2.2 k k0 (by omega)).1, (h1k k k0 (by omega)).1]
    · rw [dlz_ge (by omega), dlz_ge (by omega), (rx.2.2.2 (k + 1) (by omega) (by omega)).1, (h1k (k + 1) (by omega) (by omega)).1]
  · rw [eB k k0 k1, ec k]
    have o1 : 0 ≤ (if k < j then k else k + 1) ∧ (if k < j then k else k + 1) < n ∧ (if k < j then k else k + 1) ≠ j := by split <;> omega
    show Rep D2 (c (if k < j then k else k + 1)) (D0.B x (if k < j then k else k + 1)) ∧ Dis D2 (c (if k < j then k else k + 1)) (D0.B x (if k < j then k else k + 1)) ∧ ∀ y, Wi D2 (c (if k < j then k else k + 1)) (D0.B x (if k < j then k else k + 1)) y → _
    generalize (if k < j then k else k + 1) = i at *
    obtain ⟨V1, V2, V3⟩ := Rep_fr (D' := D2) (h1k i o1.1 o1.2.1).2 (fun y hy => Row_trans (sb i o1.1 o1.2.1 o1.2.2 y hy).1 (h2 y (sb i o1.1 o1.2.1 o1.2.2 y hy).2.2))
    exact ⟨V1, V3 (S.2.1 i o1.1 o1.2.1).1, fun y hy => Or.inl ((V2 y).mp hy)⟩
  · refine Row_trans (TF y hy (fun h => hw (Or.inr ⟨j, j0, j1, h⟩))) (h2 y (fun e => hw (Or.inl e)))
/-- a node of five becomes two -/
theorem spl (S : Sub D1 N1 t' y) (h5 : tsz t' = 5) (h2 : ∀ z, Wi D1 t' y z → z ≠ y → Row D1 D2 z) (hy : D2.K y = D1.K y ∧ D2.R y = 3 ∧ D2.fr y = D1.fr y ∧ ∀ k, 0 ≤ k → k < 3 → D2.A y k = D1.A y k ∧ D2.B y k = D1.B y k) (hN : D2.K N1 = D1.K y ∧ D2.R N1 = 2 ∧ D2.fr N1 = 1 ∧ ∀ k, 0 ≤ k → k < 2 → D2.A N1 k = D1.A y (k + 3) ∧ D2.B N1 k = D1.B y (k + 3)) : (Rep D2 (fst3 t') y ∧ Dis D2 (fst3 t') y ∧ ∀ z, Wi D2 (fst3 t') y z → Wi D1 t' y z) ∧ (Rep D2 (lst2 t') N1 ∧ Dis D2 (lst2 t') N1 ∧ ∀ z, Wi D2 (lst2 t') N1 z → z = N1 ∨ Wi D1 t' y z) ∧ ∀ z, Wi D2 (fst3 t') y z → ¬ Wi D2 (lst2 t') N1 z := by
  obtain ⟨S1, S2, S3⟩ := S
  obtain ⟨y1, y2, y3, y4⟩ := hy
  obtain ⟨z1, z2, z3, z4⟩ := hN
  have yN := (S3 y (Wi_self D1 t' y)).2
  cases t' using Tr_cs with
  | lf p n a b =>
    try dsimp only [tsz_e1, tsz_e2, Rep_e1, Rep_e2, Wi_e1, Wi_e2, Dis_e1, Dis_e2, fst3_e1, fst3_e2, lst2_e1, lst2_e2] at *
    obtain ⟨q1, q2, q3, q4, q5, q6⟩ := S1
    have en : n = 5 := h5
    subst en
    try dsimp only [tsz_e1, tsz_e2, Rep_e1, Rep_e2, Wi_e1, Wi_e2, Dis_e1, Dis_e2, fst3_e1, fst3_e2, lst2_e1, lst2_e2]
    refine ⟨⟨⟨by rw [y1, q1], y2, by omega, by omega, ?_, fun k k0 k1 => ?_⟩, trivial, fun z hz => hz⟩, ⟨⟨by rw [z1, q1], z2, by omega, by omega, Or.inr ⟨z3, rfl⟩, fun k k0 k1 => ?_⟩, trivial, fun z hz => Or.inl hz⟩, fun z hz hz' => ?_⟩
    · unfold Pgs at *
      rw [y3]
      exact q5
    · rw [(y4 k k0 k1).1, (y4 k k0 k1).2]
      exact q6 k k0 (by omega)
    · rw [(z4 k k0 k1).1, (z4 k k0 k1).2]
      exact q6 (k + 3) (by omega) (by omega)
    · have e1 : z = y := hz
      have e2 : z = N1 := hz'
      omega
  | br p n a c =>
    try dsimp only [tsz_e1, tsz_e2, Rep_e1, Rep_e2, Wi_e1, Wi_e2, Dis_e1, Dis_e2, fst3_e1, fst3_e2, lst2_e1, lst2_e2] at *
    obtain ⟨q1, q2, q3, q4, q5, q6⟩ := S1
    have en : n = 5 := h5
    subst en
    have kid : ∀ k, 0 ≤ k → k < 5 → Rep D2 (c k) (D1.B y k) ∧ Dis D2 (c k) (D1.B y k) ∧ (∀ z, Wi D2 (c k) (D1.B y k) z ↔ Wi D1 (c k) (D1.B y k) z) := fun k k0 k1 => by
      obtain ⟨V1, V2, V3⟩ := Rep_fr (D' := D2) (q6 k k0 k1).2 (fun z hz => h2 z (Or.inr ⟨k, k0, k1, hz⟩) (fun e => by
        subst e
        exact (S2 k k0 k1).2.1 hz))
      exact ⟨V1, V3 (S2 k k0 k1).1, V2⟩
    try dsimp only [tsz_e1, tsz_e2, Rep_e1, Rep_e2, Wi_e1, Wi_e2, Dis_e1, Dis_e2, fst3_e1, fst3_e2, lst2_e1, lst2_e2]
    refine ⟨⟨⟨by rw [y1, q1], y2, by omega, by omega, ?_, fun k k0 k1 => ?_⟩, fun k k0 k1 => ?_, fun z hz => ?_⟩, ⟨⟨by rw [z1, q1], z2, by omega, by omega, Or.inr ⟨z3, rfl⟩, fun k k0 k1 => ?_⟩, fun k k0 k1 => ?_, fun z hz => ?_⟩, fun z hz hz' => ?_⟩
    · unfold Pgs at *
      rw [y3]
      exact q5
    · rw [(y4 k k0 k1).1, (y4 k k0 k1).2]
      exact ⟨(q6 k k0 (by omega)).1, (kid k k0 (by omega)).1⟩
    · obtain ⟨V1, V2, V3⟩ := kid k k0 (by omega)
      rw [(y4 k k0 k1).2]
      try dsimp only [tsz_e1, tsz_e2, Rep_e1, Rep_e2, Wi_e1, Wi_e2, Dis_e1, Dis_e2, fst3_e1, fst3_e2, lst2_e1, lst2_e2]
      refine ⟨V2, fun hw => (S2 k k0 (by omega)).2.1 ((V3 y).mp hw), fun k' k0' k1' hk z hz hz' => ?_⟩
      rw [(y4 k' k0' k1').2] at hz'
      exact (S2 k k0 (by omega)).2.2 k' k0' (by omega) hk z ((V3 z).mp hz) (((kid k' k0' (by omega)).2.2 z).mp hz')
    · rcases hz with e | ⟨k, k0, k1, hw⟩
      · exact Or.inl e
      · rw [(y4 k k0 k1).2] at hw
        exact Or.inr ⟨k, k0, by omega, ((kid k k0 (by omega)).2.2 z).mp hw⟩
    · rw [(z4 k k0 k1).1, (z4 k k0 k1).2]
      exact ⟨(q6 (k + 3) (by omega) (by omega)).1, (kid (k + 3) (by omega) (by omega)).1⟩
    · obtain ⟨V1, V2, V3⟩ := kid (k + 3) (by omega) (by omega)
      rw [(z4 k k0 k1).2]
      try dsimp only [tsz_e1, tsz_e2, Rep_e1, Rep_e2, Wi_e1, Wi_e2, Dis_e1, Dis_e2, fst3_e1, fst3_e2, lst2_e1, lst2_e2]
      refine ⟨V2, fun hw => ?_, fun k' k0' k1' hk z hz hz' => ?_⟩
      · have := (S3 N1 (Or.inr ⟨k + 3, by omega, by omega, (V3 N1).mp hw⟩)).2
        omega
      · rw [(z4 k' k0' k1').2] at hz'
        exact (S2 (k + 3) (by omega) (by omega)).2.2 (k' + 3) (by omega) (by omega) (by omega) z ((V3 z).mp hz) (((kid (k' + 3) (by omega) (by omega)).2.2 z).mp hz')
    · rcases hz with e | ⟨k, k0, k1, hw⟩
      · exact Or.inl e
      · rw [(z4 k k0 k1).2] at hw
        exact Or.inr (Or.inr ⟨k + 3, by omega, by omega, ((kid (k + 3) (by omega) (by omega)).2.2 z).mp hw⟩)
    · rcases hz with e | ⟨k, k0, k1, hw⟩
      · rcases hz' with e' | ⟨k', k0', k1', hw'⟩
        · omega
        · rw [(z4 k' k0' k1').2] at hw'
          subst e
          exact (S2 (k' + 3) (by omega) (by omega)).2.1 (((kid (k' + 3) (by omega) (by omega)).2.2 z).mp hw')
      · rw [(y4 k k0 k1).2] at hw
        have w1 := ((kid k k0 (by omega)).2.2 z).mp hw
        rcases hz' with e' | ⟨k', k0', k1', hw'⟩
        · have := (S3 z (Or.inr ⟨k, k0, by omega, w1⟩)).2
          omega
        · rw [(z4 k' k0' k1').2] at hw'
          exact (S2 k k0 (by omega)).2.2 (k' + 3) (by omega) (by omega) (by omega) z w1 (((kid (k' + 3) (by omega) (by omega)).2.2 z).mp hw')
/-- a node beneath becomes two, and a row comes in -/
theorem stp_5 (S : Sub D0 N0 (.br p n a c) x) (j0 : 0 ≤ j) (j1 : j < n) (n4 : n ≤ 4) (C : Chd D0 N0 (c j) (D0.B x j) D1 N1 t' (D0.B x j)) (h5 : tsz t' = 5) (h2 : ∀ z, z ≠ x → z ≠ D0.B x j → z < N1 → Row D1 D2 z) (hy : D2.K (D0.B x j) = D1.K (D0.B x j) ∧ D2.R (D0.B x j) = 3 ∧ D2.fr (D0.B x j) = D1.fr (D0.B x j) ∧ ∀ k, 0 ≤ k → k < 3 → D2.A (D0.B x j) k = D1.A (D0.B x j) k ∧ D2.B (D0.B x j) k = D1.B (D0.B x j) k) (hN : D2.K N1 = D1.K (D0.B x j) ∧ D2.R N1 = 2 ∧ D2.fr N1 = 1 ∧ ∀ k, 0 ≤ k → k < 2 → D2.A N1 k = D1.A (D0.B x j) (k + 3) ∧ D2.B N1 k = D1.B (D0.B x j) (k + 3)) (hx : D2.K x = D1.K x ∧ D2.R x = n + 1 ∧ D2.fr x = D1.fr x ∧ ∀ k, 0 ≤ k → k < n + 1 → D2.A x k = inz (up (D1.A x) j (tlst t')) (j + 1) (tlst (lst2 t')) k ∧ D2.B x k = inz (D1.B x) (j + 1) N1 k) : Chd D0 N0 (.br p n a c) x D2 (N1 + 1) (.br p (n + 1) (inz (up a j (tlst t')) (j + 1) (tlst (lst2 t'))) (inz (up c j (fst3 t')) (j + 1) (lst2 t'))) x := by
  obtain ⟨rx, xN, sb⟩ := Chd_sib S j0 j1 C
  obtain ⟨h1, h1R, h10, h15, h1p, h1k⟩ := Sub_R2 S
  obtain ⟨x1, x2, x3, x4⟩ := hx
  obtain ⟨T, hNN, TW, TF⟩ := C
  have nx : ∀ y, Wi D1 t' (D0.B x j) y → y ≠ x := fun y hy e => by
    subst e
    rcases TW y hy with h | h
    · exact (S.2.1 j j0 j1).2.1 h
    · omega
  have yx := nx _ (Wi_self D1 t' (D0.B x j))
  have yj : Wi D0 (c j) (D0.B x j) (D0.B x j) := Wi_self _ _ _
  have yN0 := S.2.2 _ (Or.inr ⟨j, j0, j1, yj⟩)
  have key := spl (D2 := D2) (y := D0.B x j) T h5 (fun z hz hz' => h2 z (nx z hz) hz' (T.2.2 z hz).2) hy hN
  obtain ⟨⟨P1, P2, P3⟩, ⟨Q1, Q2, Q3⟩, PQ⟩ := key
  have eB : ∀ k, 0 ≤ k → k < n + 1 → k ≠ j + 1 → D2.B x k = D0.B x (if k ≤ j then k else k - 1) := fun k k0 k1 kj => by
    rw [(x4 k k0 k1).2]
    by_cases e : k ≤ j
    · rw [inz_lt (by omega), if_pos e, (rx.2.2.2 k k0 (by omega)).2]
    · rw [inz_gt (by omega), if_neg e, (rx.2.2.2 (k - 1) (by omega) (by omega)).2]
  have eBN : D2.B x (j + 1) = N1 := by rw [(x4 (j + 1) (by omega) (by omega)).2, inz_eq rfl]
  refine mkbr (j := j) (o := fun k => if k ≤ j then k else k - 1) S (by omega) (by rw [x1, rx.1, h1]) x2 (by omega) (by omega) ?_ (fun k k0 k1 => ?_) (fun k k0 k1 => ⟨by split <;> omega, ?_⟩) (fun k k' k0 k1 k0' k1' hk e y hy hy' => ?_) (fun y hy hw => ?_)
  · unfold Pgs at *
    rw [x3, rx.2.2.1]
    exact h1p
  · rw [(x4 k k0 k1).1]
    by_cases e : k < j + 1
    · rw [inz_lt e, inz_lt e]
      by_cases e2 : k = j
      · rw [up_eq e2, up_eq e2]
      · rw [up_ne e2, up_ne e2, (rx.2.2.2 k k0 (by omega)).1, (h1k k k0 (by omega)).1]
    · by_cases e2 : k = j + 1
      · rw [inz_eq e2, inz_eq e2]
      · rw [inz_gt (by omega), inz_gt (by omega), up_ne (by omega), up_ne (by omega), (rx.2.2.2 (k - 1) (by omega) (by omega)).1, (h1k (k - 1) (by omega) (by omega)).1]
  · by_cases e : k = j + 1
    · subst e
      rw [eBN, inz_eq rfl]
      try dsimp only [tsz_e1, tsz_e2, tlst_e1, tlst_e2, Rep_e1, Rep_e2, Wi_e1, Wi_e2, Dis_e1, Dis_e2, fst3_e1, fst3_e2, lst2_e1, lst2_e2]
      refine ⟨Q1, Q2, fun y hy => ?_⟩
      have eo : (if j + 1 ≤ j then j + 1 else j + 1 - 1) = j := by rw [if_neg (by omega)]; omega
      show Wi D0 (c (if j + 1 ≤ j then j + 1 else j + 1 - 1)) (D0.B x (if j + 1 ≤ j then j + 1 else j + 1 - 1)) y ∨ (if j + 1 ≤ j then j + 1 else j + 1 - 1) = j ∧ _
      rw [eo]
      rcases Q3 y hy with h | h
      · exact Or.inr ⟨rfl, by omega, by omega⟩
      · rcases TW y h with h' | h'
        · exact Or.inl h'
        · exact Or.inr ⟨rfl, h', by have := (T.2.2 y h).2; omega⟩
    · rw [eB k k0 k1 e]
      by_cases e2 : k = j
      · subst e2
        rw [inz_lt (by omega), up_eq rfl]
        show Rep D2 (fst3 t') (D0.B x (if k ≤ k then k else k - 1)) ∧ Dis D2 (fst3 t') (D0.B x (if k ≤ k then k else k - 1)) ∧ ∀ y, Wi D2 (fst3 t') (D0.B x (if k ≤ k then k else k - 1)) y → Wi D0 (c (if k ≤ k then k else k - 1)) (D0.B x (if k ≤ k then k else k - 1)) y ∨ (if k ≤ k then k else k - 1) = k ∧ _
        rw [if_pos (Int.le_refl k)]
        try dsimp only [tsz_e1, tsz_e2, tlst_e1, tlst_e2, Rep_e1, Rep_e2, Wi_e1, Wi_e2, Dis_e1, Dis_e2, fst3_e1, fst3_e2, lst2_e1, lst2_e2]
        refine ⟨P1, P2, fun y hy => ?_⟩
        have h := P3 y hy
        rcases TW y h with h' | h'
        · exact Or.inl h'
        · exact Or.inr ⟨rfl, h', by have := (T.2.2 y h).2; omega⟩
      · have ec : inz (up c j (fst3 t')) (j + 1) (lst2 t') k = c (if k ≤ j then k else k - 1) := by
          by_cases e3 : k ≤ j
          · rw [inz_lt (by omega), up_ne e2, if_pos e3]
          · rw [inz_gt (by omega), up_ne (by omega), if_neg e3]
        rw [ec]
        have o1 : 0 ≤ (if k ≤ j then k else k - 1) ∧ (if k ≤ j then k else k - 1) < n ∧ (if k ≤ j then k else k - 1) ≠ j := by split <;> omega
        show Rep D2 (c (if k ≤ j then k else k - 1)) (D0.B x (if k ≤ j then k else k - 1)) ∧ Dis D2 (c (if k ≤ j then k else k - 1)) (D0.B x (if k ≤ j then k else k - 1)) ∧ ∀ y, Wi D2 (c (if k ≤ j then k else k - 1)) (D0.B x (if k ≤ j then k else k - 1)) y → Wi D0 (c (if k ≤ j then k else k - 1)) (D0.B x (if k ≤ j then k else k - 1)) y ∨ _
        generalize (if k ≤ j then k else k - 1) = i at *
        obtain ⟨V1, V2, V3⟩ := Rep_fr (D' := D2) (h1k i o1.1 o1.2.1).2 (fun y hy => by
          obtain ⟨w1, w2, w3⟩ := sb i o1.1 o1.2.1 o1.2.2 y hy
          refine Row_trans w1 (h2 y w3 (fun e => ?_) (by omega))
          rw [e] at hy
          exact (S.2.1 i o1.1 o1.2.1).2.2 j j0 j1 o1.2.2 _ hy yj)
        exact ⟨V1, V3 (S.2.1 i o1.1 o1.2.1).1, fun y hy => Or.inl ((V2 y).mp hy)⟩
  · have e' : (if k ≤ j then k else k - 1) = (if k' ≤ j then k' else k' - 1) := e
    have : (k = j ∧ k' = j + 1) ∨ (k = j + 1 ∧ k' = j) := by
      split at e' <;> split at e' <;> omega
    rcases this with ⟨r1, r2⟩ | ⟨r1, r2⟩
    · subst r1
      subst r2
      rw [eBN, inz_eq rfl] at hy'
      rw [eB k k0 k1 (by omega), if_pos (Int.le_refl k), inz_lt (by omega), up_eq rfl] at hy
      exact PQ y hy hy'
    · subst r1
      subst r2
      rw [eBN, inz_eq rfl] at hy
      rw [eB k' k0' k1' (by omega), if_pos (Int.le_refl k'), inz_lt (by omega), up_eq rfl] at hy'
      exact PQ y hy' hy
  · refine Row_trans (TF y hy (fun h => hw (Or.inr ⟨j, j0, j1, h⟩))) (h2 y (fun e => hw (Or.inl e)) (fun e => ?_) (by omega))
    subst e
    exact hw (Or.inr ⟨j, j0, j1, yj⟩)
end STP
