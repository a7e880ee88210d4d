/-! PAGES of a tree off the disk: which it still has, which are left -/
noncomputable def PG : Tr → Int → Prop := tr_rec (fun p u0_ u1_ u2_ z => p ≠ -1 ∧ z = p) (fun p n u0_ c r_ z => (p ≠ -1 ∧ z = p) ∨ ∃ k, 0 ≤ k ∧ k < n ∧ r_ k z)
theorem PG_e1 (p u0_ : Int) (u1_ : Int → Int) (u2_ : Int → Int) (z : Int) : PG (.lf p u0_ u1_ u2_) z = (p ≠ -1 ∧ z = p) := rfl
theorem PG_e2 (p n : Int) (u0_ : Int → Int) (c : Int → Tr) (z : Int) : PG (.br p n u0_ c) z = ((p ≠ -1 ∧ z = p) ∨ ∃ k, 0 ≤ k ∧ k < n ∧ PG (c k) z) := rfl
noncomputable def DPg : Tr → Prop := tr_rec (fun u0_ u1_ u2_ u3_ => True) (fun p n u0_ c r_  => ∀ k, 0 ≤ k → k < n → r_ k ∧ (p ≠ -1 → ¬ PG (c k) p) ∧ ∀ k', 0 ≤ k' → k' < n → k ≠ k' → ∀ z, PG (c k) z → ¬ PG (c k') z)
theorem DPg_e1 (u0_ u1_ : Int) (u2_ : Int → Int) (u3_ : Int → Int) : DPg (.lf u0_ u1_ u2_ u3_) = (True) := rfl
theorem DPg_e2 (p n : Int) (u0_ : Int → Int) (c : Int → Tr) : DPg (.br p n u0_ c) = (∀ k, 0 ≤ k → k < n → DPg (c k) ∧ (p ≠ -1 → ¬ PG (c k) p) ∧ ∀ k', 0 ≤ k' → k' < n → k ≠ k' → ∀ z, PG (c k) z → ¬ PG (c k') z) := rfl
/-- what is not new stands on the disk as it was -/
noncomputable def Old (D : Ar) : Tr → Prop := tr_rec (fun p n a b => p = -1 ∨ Sub D 48 (.lf p n a b) p) (fun p n a c r_  => (p ≠ -1 ∧ Sub D 48 (.br p n a c) p) ∨ (p = -1 ∧ ∀ k, 0 ≤ k → k < n → r_ k))
theorem Old_e1 (D : Ar) (p n : Int) (a : Int → Int) (b : Int → Int) : Old D (.lf p n a b) = (p = -1 ∨ Sub D 48 (.lf p n a b) p) := rfl
theorem Old_e2 (D : Ar) (p n : Int) (a : Int → Int) (c : Int → Tr) : Old D (.br p n a c) = ((p ≠ -1 ∧ Sub D 48 (.br p n a c) p) ∨ (p = -1 ∧ ∀ k, 0 ≤ k → k < n → Old D (c k))) := rfl
section PGS
variable {D : Ar} {t t' : Tr} {x z key p n j : Int} {a : Int → Int} {c : Int → Tr} {h : Nat} {lo hi : Int} {g : Int → (Int → Int) → (Int → Int) → Tr}
theorem PG_Wi : ∀ {t : Tr} {x : Int}, Rep D t x → PG t z → Wi D t x z ∧ D.fr z = 0 := by
  intro t
  induction t using Tr_rc with
  | lf p n a b =>
    try dsimp only [Rep_e1, Rep_e2, Wi_e1, Wi_e2, PG_e1, PG_e2] at *
    rintro x ⟨r1, r2, r3, r4, r5, r6⟩ ⟨h1, h2⟩
    rcases r5 with ⟨f, e⟩ | ⟨f, e⟩
    · subst e
      subst h2
      exact ⟨rfl, f⟩
    · exact absurd e h1
  | br p n a cc ih =>
    try dsimp only [Rep_e1, Rep_e2, Wi_e1, Wi_e2, PG_e1, PG_e2] at *
    rintro x ⟨r1, r2, r3, r4, r5, r6⟩ (⟨h1, h2⟩ | ⟨k, k0, k1, hk⟩)
    · rcases r5 with ⟨f, e⟩ | ⟨f, e⟩
      · subst e
        subst h2
        exact ⟨Or.inl rfl, f⟩
      · exact absurd e h1
    · obtain ⟨i1, i2⟩ := ih k (r6 k k0 k1).2 hk
      exact ⟨Or.inr ⟨k, k0, k1, i1⟩, i2⟩
theorem Wi_PG : ∀ {t : Tr} {x : Int}, Rep D t x → Wi D t x z → D.fr z = 0 → z ≠ -1 → PG t z := by
  intro t
  induction t using Tr_rc with
  | lf p n a b =>
    try dsimp only [Rep_e1, Rep_e2, Wi_e1, Wi_e2, PG_e1, PG_e2] at *
    rintro x ⟨r1, r2, r3, r4, r5, r6⟩ hw f hz
    have e : z = x := hw
    subst e
    rcases r5 with ⟨f', e⟩ | ⟨f', e⟩
    · exact ⟨by rw [e]; exact hz, e.symm⟩
    · omega
  | br p n a cc ih =>
    try dsimp only [Rep_e1, Rep_e2, Wi_e1, Wi_e2, PG_e1, PG_e2] at *
    rintro x ⟨r1, r2, r3, r4, r5, r6⟩ hw f hz
    rcases hw with e | ⟨k, k0, k1, hk⟩
    · subst e
      rcases r5 with ⟨f', e⟩ | ⟨f', e⟩
      · exact Or.inl ⟨by rw [e]; exact hz, e.symm⟩
      · omega
    · exact Or.inr ⟨k, k0, k1, ih k (r6 k k0 k1).2 hk f hz⟩
theorem DPg_of : ∀ {t : Tr} {x : Int}, Rep D t x → Dis D t x → DPg t := by
  intro t
  induction t using Tr_rc with
  | lf p n a b =>
    try dsimp only [Rep_e1, Rep_e2, Dis_e1, Dis_e2, DPg_e1, DPg_e2] at *
    exact fun _ _ => trivial
  | br p n a cc ih =>
    try dsimp only [Rep_e1, Rep_e2, Dis_e1, Dis_e2, DPg_e1, DPg_e2] at *
    rintro x ⟨r1, r2, r3, r4, r5, r6⟩ hd k k0 k1
    obtain ⟨d1, d2, d3⟩ := hd k k0 k1
    try dsimp only [Rep_e1, Rep_e2, Dis_e1, Dis_e2, DPg_e1, DPg_e2]
    refine ⟨ih k (r6 k k0 k1).2 d1, fun hp hg => ?_, fun k' k0' k1' hk z hz hz' => ?_⟩
    · rcases r5 with ⟨f', e⟩ | ⟨f', e⟩
      · subst e
        exact d2 (PG_Wi (r6 k k0 k1).2 hg).1
      · exact hp e
    · exact d3 k' k0' k1' hk z (PG_Wi (r6 k k0 k1).2 hz).1 (PG_Wi (r6 k' k0' k1').2 hz').1
theorem WP_PG : ∀ {t : Tr} {h : Nat} {lo hi : Int}, Okt t h lo hi → WP key t z → PG t z := by
  intro t
  induction t using Tr_rc with
  | lf p n a b =>
    try dsimp only [Okt_e1, Okt_e2, WP_e1, WP_e2, PG_e1, PG_e2] at *
    exact fun _ h => h
  | br p n a cc ih =>
    try dsimp only [Okt_e1, Okt_e2, WP_e1, WP_e2, PG_e1, PG_e2] at *
    rintro h lo hi ⟨h', e, n0, n1, r⟩ hw
    obtain ⟨s0, s1, s2, s3⟩ := slt_ok (n := n) (a := a) (key := key) n0
    rcases hw with hw | hw
    · exact Or.inl hw
    · exact Or.inr ⟨_, s0, s1, ih _ (r _ s0 s1).2.2 hw⟩
theorem LPg_PG : ∀ {t : Tr}, LPg t z → PG t z := by
  intro t
  induction t using Tr_rc with
  | lf p n a b =>
    try dsimp only [LPg_e1, LPg_e2, PG_e1, PG_e2] at *
    exact fun h => False.elim h
  | br p n a cc ih =>
    try dsimp only [LPg_e1, LPg_e2, PG_e1, PG_e2] at *
    rintro ⟨e, hw | hw⟩
    · exact Or.inl hw
    · exact Or.inr ⟨0, by omega, by omega, ih 0 hw⟩
theorem mend_pg : tpg (mend (-1) n a c j t) = -1 := by
  unfold mend
  split
  · rfl
  · split <;> rfl
theorem chg_pg (hg : ∀ n a b, ∃ n' a' b', g n a b = .lf (-1) n' a' b') : ∀ t, tpg (chg key g t) = -1 := by
  intro t
  cases t using Tr_cs with
  | lf p n a b =>
    obtain ⟨n', a', b', e⟩ := hg n a b
    show tpg (g n a b) = -1
    rw [e]
    rfl
  | br p n a c =>
    exact mend_pg
theorem PG_0 (h1 : tpg t = -1) (h2 : tsz t = 0) : ¬ PG t z := by
  cases t using Tr_cs with
  | lf p n a b =>
    try dsimp only [PG_e1, PG_e2] at *
    exact fun h => h.1 h1
  | br p n a c =>
    try dsimp only [PG_e1, PG_e2] at *
    rintro (h | ⟨k, k0, k1, hk⟩)
    · exact h.1 h1
    · have : n = 0 := h2
      omega
theorem PG_5 (h1 : tpg t = -1) (h5 : tsz t = 5) : PG t z ↔ PG (fst3 t) z ∨ PG (lst2 t) z := by
  cases t using Tr_cs with
  | lf p n a b =>
    try dsimp only [PG_e1, PG_e2, fst3_e1, fst3_e2, lst2_e1, lst2_e2] at *
    constructor
    · exact fun h => absurd h1 h.1
    · rintro (h | h)
      · exact h
      · exact absurd rfl h.1
  | br p n a c =>
    try dsimp only [PG_e1, PG_e2, fst3_e1, fst3_e2, lst2_e1, lst2_e2] at *
    have e5 : n = 5 := h5
    constructor
    · rintro (h | ⟨k, k0, k1, hk⟩)
      · exact absurd h1 h.1
      · by_cases c3 : k < 3
        · exact Or.inl (Or.inr ⟨k, k0, c3, hk⟩)
        · refine Or.inr (Or.inr ⟨k - 3, by omega, by omega, ?_⟩)
          show PG (c (k - 3 + 3)) z
          rw [show k - 3 + 3 = k by omega]
          exact hk
    · rintro ((h | ⟨k, k0, k1, hk⟩) | (h | ⟨k, k0, k1, hk⟩))
      · exact absurd h1 h.1
      · exact Or.inr ⟨k, k0, by omega, hk⟩
      · exact absurd rfl h.1
      · exact Or.inr ⟨k + 3, by omega, by omega, hk⟩
theorem PG_mend (j0 : 0 ≤ j) (j1 : j < n) (h1 : tpg t = -1) : PG (mend (-1) n a c j t) z ↔ (∃ k, 0 ≤ k ∧ k < n ∧ k ≠ j ∧ PG (c k) z) ∨ PG t z := by
  unfold mend
  by_cases c0 : tsz t = 0
  · rw [if_pos c0, PG_e2]
    constructor
    · rintro (h | ⟨k, k0, k1, hk⟩)
      · exact absurd rfl h.1
      · by_cases e : k < j
        · rw [dlz_lt e] at hk
          exact Or.inl ⟨k, k0, by omega, by omega, hk⟩
        · rw [dlz_ge (by omega)] at hk
          exact Or.inl ⟨k + 1, by omega, by omega, by omega, hk⟩
    · rintro (⟨k, k0, k1, hkj, hk⟩ | h)
      · by_cases e : k < j
        · refine Or.inr ⟨k, k0, by omega, ?_⟩
          rw [dlz_lt e]
          exact hk
        · refine Or.inr ⟨k - 1, by omega, by omega, ?_⟩
          rw [dlz_ge (by omega), show k - 1 + 1 = k by omega]
          exact hk
      · exact absurd h (PG_0 h1 c0)
  · rw [if_neg c0]
    by_cases c5 : tsz t = 5
    · rw [if_pos c5]
      rw [PG_5 h1 c5, PG_e2]
      constructor
      · rintro (h | ⟨k, k0, k1, hk⟩)
        · exact absurd rfl h.1
        · by_cases e : k < j + 1
          · rw [inz_lt e] at hk
            by_cases e' : k = j
            · rw [up_eq e'] at hk
              exact Or.inr (Or.inl hk)
            · rw [up_ne e'] at hk
              exact Or.inl ⟨k, k0, by omega, e', hk⟩
          · by_cases e' : k = j + 1
            · rw [inz_eq e'] at hk
              exact Or.inr (Or.inr hk)
            · rw [inz_gt (by omega), up_ne (by omega)] at hk
              exact Or.inl ⟨k - 1, by omega, by omega, by omega, hk⟩
      · rintro (⟨k, k0, k1, hkj, hk⟩ | h | h)
        · by_cases e : k < j + 1
          · refine Or.inr ⟨k, k0, by omega, ?_⟩
            rw [inz_lt e, up_ne hkj]
            exact hk
          · refine Or.inr ⟨k + 1, by omega, by omega, ?_⟩
            rw [inz_gt (by omega), up_ne (by omega), show k + 1 - 1 = k by omega]
            exact hk
        · refine Or.inr ⟨j, j0, by omega, ?_⟩
          rw [inz_lt (by omega), up_eq rfl]
          exact h
        · refine Or.inr ⟨j + 1, by omega, by omega, ?_⟩
          rw [inz_eq rfl]
          exact h
    · rw [if_neg c5, PG_e2]
      constructor
      · rintro (h | ⟨k, k0, k1, hk⟩)
        · exact absurd rfl h.1
        · by_cases e' : k = j
          · rw [up_eq e'] at hk
            exact Or.inr hk
          · rw [up_ne e'] at hk
            exact Or.inl ⟨k, k0, k1, e', hk⟩
      · rintro (⟨k, k0, k1, hkj, hk⟩ | h)
        · refine Or.inr ⟨k, k0, k1, ?_⟩
          rw [up_ne hkj]
          exact hk
        · refine Or.inr ⟨j, j0, j1, ?_⟩
          rw [up_eq rfl]
          exact h
theorem PG_chg (hg : ∀ n a b, ∃ n' a' b', g n a b = .lf (-1) n' a' b') : ∀ {t : Tr} {h : Nat} {lo hi : Int}, Okt t h lo hi → DPg t → ∀ z, PG (chg key g t) z ↔ PG t z ∧ ¬ WP key t z := by
  intro t
  induction t using Tr_rc with
  | lf p n a b =>
    try dsimp only [Okt_e1, Okt_e2, WP_e1, WP_e2, PG_e1, PG_e2, DPg_e1, DPg_e2] at *
    intro h lo hi o d z
    obtain ⟨n', a', b', e⟩ := hg n a b
    show PG (g n a b) z ↔ _
    rw [e]
    constructor
    · exact fun q => absurd rfl q.1
    · exact fun q => absurd q.1 q.2
  | br p n a cc ih =>
    try dsimp only [Okt_e1, Okt_e2, WP_e1, WP_e2, PG_e1, PG_e2, DPg_e1, DPg_e2] at *
    rintro h lo hi ⟨h', e, n0, n1, r⟩ d z
    obtain ⟨s0, s1, s2, s3⟩ := slt_ok (n := n) (a := a) (key := key) n0
    obtain ⟨d1, d2, d3⟩ := d _ s0 s1
    have i1 := ih _ (r _ s0 s1).2.2 d1 z
    show PG (mend (-1) n a cc (slt n a key) (chg key g (cc (slt n a key)))) z ↔ _
    rw [PG_mend s0 s1 (chg_pg hg _), i1]
    constructor
    · rintro (⟨k, k0, k1, hkj, hk⟩ | ⟨q1, q2⟩)
      · obtain ⟨e1, e2, e3⟩ := d k k0 k1
        try dsimp only [Okt_e1, Okt_e2, WP_e1, WP_e2, PG_e1, PG_e2, DPg_e1, DPg_e2]
        refine ⟨Or.inr ⟨k, k0, k1, hk⟩, ?_⟩
        rintro (w | w)
        · exact e2 w.1 (w.2 ▸ hk)
        · exact e3 _ s0 s1 hkj z hk (WP_PG (r _ s0 s1).2.2 w)
      · try dsimp only [Okt_e1, Okt_e2, WP_e1, WP_e2, PG_e1, PG_e2, DPg_e1, DPg_e2]
        refine ⟨Or.inr ⟨_, s0, s1, q1⟩, ?_⟩
        rintro (w | w)
        · exact d2 w.1 (w.2 ▸ q1)
        · exact q2 w
    · rintro ⟨q | ⟨k, k0, k1, hk⟩, q2⟩
      · exact absurd (Or.inl q) q2
      · by_cases e' : k = slt n a key
        · subst e'
          exact Or.inr ⟨hk, fun w => q2 (Or.inr w)⟩
        · exact Or.inl ⟨k, k0, k1, e', hk⟩
theorem DPg_5 (h1 : tpg t = -1) (h5 : tsz t = 5) (d : DPg t) : DPg (fst3 t) ∧ DPg (lst2 t) ∧ ∀ z, PG (fst3 t) z → ¬ PG (lst2 t) z := by
  cases t using Tr_cs with
  | lf p n a b =>
    try dsimp only [PG_e1, PG_e2, DPg_e1, DPg_e2, fst3_e1, fst3_e2, lst2_e1, lst2_e2] at *
    exact ⟨trivial, trivial, fun z h => absurd h1 h.1⟩
  | br p n a c =>
    try dsimp only [PG_e1, PG_e2, DPg_e1, DPg_e2, fst3_e1, fst3_e2, lst2_e1, lst2_e2] at *
    have e5 : n = 5 := h5
    have ep : p = -1 := h1
    subst ep
    try dsimp only [PG_e1, PG_e2, DPg_e1, DPg_e2, fst3_e1, fst3_e2, lst2_e1, lst2_e2]
    refine ⟨fun k k0 k1 => ?_, fun k k0 k1 => ?_, ?_⟩
    · obtain ⟨d1, d2, d3⟩ := d k k0 (by omega)
      exact ⟨d1, fun q => absurd rfl q, fun k' k0' k1' => d3 k' k0' (by omega)⟩
    · obtain ⟨d1, d2, d3⟩ := d (k + 3) (by omega) (by omega)
      exact ⟨d1, fun q => absurd rfl q, fun k' k0' k1' hk => d3 (k' + 3) (by omega) (by omega) (by omega)⟩
    · rintro z (h | ⟨k, k0, k1, hk⟩) (h' | ⟨k', k0', k1', hk'⟩)
      · exact h.1 rfl
      · exact h.1 rfl
      · exact h'.1 rfl
      · exact (d k k0 (by omega)).2.2 (k' + 3) (by omega) (by omega) (by omega) z hk hk'
theorem DPg_mend (j0 : 0 ≤ j) (j1 : j < n) (h1 : tpg t = -1) (d : DPg (.br p n a c)) (dt : DPg t) (hs : ∀ z, PG t z → PG (c j) z) : DPg (mend (-1) n a c j t) := by
  rw [DPg_e2] at d
  unfold mend
  by_cases c0 : tsz t = 0
  · rw [if_pos c0, DPg_e2]
    intro k k0 k1
    unfold dlz
    have ek : ∀ i : Int, (if i < j then c i else c (i + 1)) = c (if i < j then i else i + 1) := fun i => by split <;> rfl
    rw [ek]
    obtain ⟨d1, d2, d3⟩ := d (if k < j then k else k + 1) (by split <;> omega) (by split <;> omega)
    try dsimp only [PG_e1, PG_e2, DPg_e1, DPg_e2, fst3_e1, fst3_e2, lst2_e1, lst2_e2]
    refine ⟨d1, fun q => absurd rfl q, fun k' k0' k1' hk => ?_⟩
    rw [ek]
    exact d3 (if k' < j then k' else k' + 1) (by split <;> omega) (by split <;> omega) (by split <;> split <;> omega)
  · rw [if_neg c0]
    by_cases c5 : tsz t = 5
    · rw [if_pos c5, DPg_e2]
      obtain ⟨f1, f2, f3⟩ := DPg_5 h1 c5 dt
      have p5 := fun z => PG_5 (z := z) h1 c5
      have cs : ∀ k, 0 ≤ k → k < n + 1 → (k = j ∧ inz (up c j (fst3 t)) (j + 1) (lst2 t) k = fst3 t) ∨ (k = j + 1 ∧ inz (up c j (fst3 t)) (j + 1) (lst2 t) k = lst2 t) ∨ ∃ i, 0 ≤ i ∧ i < n ∧ i ≠ j ∧ inz (up c j (fst3 t)) (j + 1) (lst2 t) k = c i ∧ (k < j → i = k) ∧ (j < k → k = i + 1) ∧ k ≠ j := fun k k0 k1 => by
        by_cases e : k < j + 1
        · rw [inz_lt e]
          by_cases e' : k = j
          · exact Or.inl ⟨e', up_eq e'⟩
          · exact Or.inr (Or.inr ⟨k, k0, by omega, e', up_ne e', fun _ => rfl, fun _ => by omega, e'⟩)
        · by_cases e' : k = j + 1
          · exact Or.inr (Or.inl ⟨e', inz_eq e'⟩)
          · rw [inz_gt (by omega)]
            exact Or.inr (Or.inr ⟨k - 1, by omega, by omega, by omega, up_ne (by omega), fun _ => by omega, fun _ => by omega, by omega⟩)
      intro k k0 k1
      try dsimp only [PG_e1, PG_e2, DPg_e1, DPg_e2, fst3_e1, fst3_e2, lst2_e1, lst2_e2]
      refine ⟨?_, fun q => absurd rfl q, fun k' k0' k1' hk z hz hz' => ?_⟩
      · rcases cs k k0 k1 with ⟨-, e⟩ | ⟨-, e⟩ | ⟨i, i0, i1, -, e, -⟩
        · rw [e]
          exact f1
        · rw [e]
          exact f2
        · rw [e]
          exact (d i i0 i1).1
      · rcases cs k k0 k1 with ⟨q, e⟩ | ⟨q, e⟩ | ⟨i, i0, i1, q, e, q1, q2, q3⟩ <;> rcases cs k' k0' k1' with ⟨r, e'⟩ | ⟨r, e'⟩ | ⟨i', i0', i1', r, e', r1, r2, r3⟩ <;> rw [e] at hz <;> rw [e'] at hz'
        · omega
        · exact f3 z hz hz'
        · exact (d j j0 j1).2.2 i' i0' i1' (by omega) z (hs z ((p5 z).mpr (Or.inl hz))) hz'
        · exact f3 z hz' hz
        · omega
        · exact (d j j0 j1).2.2 i' i0' i1' (by omega) z (hs z ((p5 z).mpr (Or.inr hz))) hz'
        · exact (d j j0 j1).2.2 i i0 i1 (by omega) z (hs z ((p5 z).mpr (Or.inl hz'))) hz
        · exact (d j j0 j1).2.2 i i0 i1 (by omega) z (hs z ((p5 z).mpr (Or.inr hz'))) hz
        · exact (d i i0 i1).2.2 i' i0' i1' (by omega) z hz hz'
    · rw [if_neg c5, DPg_e2]
      have cs : ∀ k, (k = j ∧ up c j t k = t) ∨ (k ≠ j ∧ up c j t k = c k) := fun k => by
        by_cases e' : k = j
        · exact Or.inl ⟨e', up_eq e'⟩
        · exact Or.inr ⟨e', up_ne e'⟩
      intro k k0 k1
      try dsimp only [PG_e1, PG_e2, DPg_e1, DPg_e2, fst3_e1, fst3_e2, lst2_e1, lst2_e2]
      refine ⟨?_, fun q => absurd rfl q, fun k' k0' k1' hk z hz hz' => ?_⟩
      · rcases cs k with ⟨-, e⟩ | ⟨-, e⟩
        · rw [e]
          exact dt
        · rw [e]
          exact (d k k0 k1).1
      · rcases cs k with ⟨q, e⟩ | ⟨q, e⟩ <;> rcases cs k' with ⟨r, e'⟩ | ⟨r, e'⟩ <;> rw [e] at hz <;> rw [e'] at hz'
        · omega
        · exact (d j j0 j1).2.2 k' k0' k1' (by omega) z (hs z hz) hz'
        · exact (d j j0 j1).2.2 k k0 k1 (by omega) z (hs z hz') hz
        · exact (d k k0 k1).2.2 k' k0' k1' hk z hz hz'
theorem DPg_chg (hg : ∀ n a b, ∃ n' a' b', g n a b = .lf (-1) n' a' b') : ∀ {t : Tr} {h : Nat} {lo hi : Int}, Okt t h lo hi → DPg t → DPg (chg key g t) := by
  intro t
  induction t using Tr_rc with
  | lf p n a b =>
    try dsimp only [Okt_e1, Okt_e2, DPg_e1, DPg_e2] at *
    intro h lo hi o d
    obtain ⟨n', a', b', e⟩ := hg n a b
    show DPg (g n a b)
    rw [e]
    trivial
  | br p n a cc ih =>
    try dsimp only [Okt_e1, Okt_e2, DPg_e1, DPg_e2] at *
    rintro h lo hi ⟨h', e, n0, n1, r⟩ d
    obtain ⟨s0, s1, s2, s3⟩ := slt_ok (n := n) (a := a) (key := key) n0
    obtain ⟨d1, d2, d3⟩ := d _ s0 s1
    exact DPg_mend (p := p) (n := n) (a := a) (c := cc) s0 s1 (chg_pg hg _) d (ih _ (r _ s0 s1).2.2 d1) (fun z hz => ((PG_chg hg (r _ s0 s1).2.2 d1 z).mp hz).1)
theorem PG_low : ∀ {t : Tr}, DPg t → ∀ z, PG (lowT t) z ↔ PG t z ∧ ¬ LPg t z := by
  intro t
  induction t using Tr_rc with
  | lf p n a b =>
    try dsimp only [LPg_e1, LPg_e2, PG_e1, PG_e2, DPg_e1, DPg_e2] at *
    exact fun _ z => ⟨fun h => ⟨h, id⟩, fun h => h.1⟩
  | br p n a cc ih =>
    try dsimp only [LPg_e1, LPg_e2, PG_e1, PG_e2, DPg_e1, DPg_e2] at *
    intro d z
    try dsimp only [lowT_e1, lowT_e2]
    by_cases c1 : n = 1
    · rw [if_pos c1]
      obtain ⟨d1, d2, d3⟩ := d 0 (by omega) (by omega)
      rw [ih 0 d1 z]
      constructor
      · rintro ⟨h1, h2⟩
        try dsimp only [LPg_e1, LPg_e2, PG_e1, PG_e2, DPg_e1, DPg_e2]
        refine ⟨Or.inr ⟨0, by omega, by omega, h1⟩, ?_⟩
        rintro ⟨-, w | w⟩
        · exact d2 w.1 (w.2 ▸ h1)
        · exact h2 w
      · rintro ⟨h | ⟨k, k0, k1, hk⟩, h2⟩
        · exact absurd ⟨c1, Or.inl h⟩ h2
        · have e : k = 0 := by omega
          subst e
          exact ⟨hk, fun w => h2 ⟨c1, Or.inr w⟩⟩
    · rw [if_neg c1]
      exact ⟨fun h => ⟨h, fun w => c1 w.1⟩, fun h => h.1⟩
theorem PG_top (h1 : tpg t = -1) : PG (topT t) z ↔ PG t z := by
  unfold topT
  by_cases c5 : tsz t = 5
  · rw [if_pos c5, PG_5 h1 c5, PG_e2]
    constructor
    · rintro (h | ⟨k, k0, k1, hk⟩)
      · exact absurd rfl h.1
      · try dsimp only at hk
        by_cases e : k = 0
        · rw [if_pos e] at hk
          exact Or.inl hk
        · rw [if_neg e] at hk
          exact Or.inr hk
    · rintro (h | h)
      · exact Or.inr ⟨0, by omega, by omega, by (try dsimp only); rw [if_pos rfl]; exact h⟩
      · exact Or.inr ⟨1, by omega, by omega, by (try dsimp only); rw [if_neg (by omega)]; exact h⟩
  · rw [if_neg c5]
end PGS
