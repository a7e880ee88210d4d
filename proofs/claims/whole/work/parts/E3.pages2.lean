/-! PAGES of a tree off the disk: a change of the draft -/
noncomputable def PGo : Option Tr → Int → Prop
  | none, _ => False
  | some t, z => PG t z
noncomputable def OldO (D : Ar) : Option Tr → Prop
  | none => True
  | some t => Old D t
noncomputable def DPo : Option Tr → Prop
  | none => True
  | some t => DPg t
section PG2
variable {D : Ar} {t t' : Tr} {x z key v p n j : Int} {a b : Int → Int} {c : Int → Tr} {h : Nat} {lo hi : Int} {g : Int → (Int → Int) → (Int → Int) → Tr} {T : Option Tr}
theorem Old_sub (hf : ∀ y, D.fr y = 0) (S : Sub D 48 t x) : Old D t := by
  have hp := Rep_pg S.1
  have hx := S.2.2 x (Wi_self D t x)
  have e : tpg t = x := by
    rcases hp with ⟨-, e⟩ | ⟨f, -⟩
    · exact e
    · rw [hf] at f
      omega
  cases t using Tr_cs with
  | lf p n a b =>
    try dsimp only [Old_e1, Old_e2] at *
    have e : p = x := e
    subst e
    exact Or.inr S
  | br p n a cc =>
    try dsimp only [Old_e1, Old_e2] at *
    have e : p = x := e
    subst e
    exact Or.inl ⟨by omega, S⟩
theorem Old_kid (hf : ∀ y, D.fr y = 0) (o : Old D (.br p n a c)) {k : Int} (k0 : 0 ≤ k) (k1 : k < n) : Old D (c k) := by
  rcases o with ⟨-, S⟩ | ⟨-, h⟩
  · exact Old_sub hf (Sub_kid S k0 k1)
  · exact h k k0 k1
theorem Old_5 (h1 : tpg t = -1) (h5 : tsz t = 5) (o : Old D t) : Old D (fst3 t) ∧ Old D (lst2 t) := by
  cases t using Tr_cs with
  | lf p n a b =>
    try dsimp only [Old_e1, Old_e2, fst3_e1, fst3_e2, lst2_e1, lst2_e2] at *
    exact ⟨Or.inl h1, Or.inl rfl⟩
  | br p n a c =>
    try dsimp only [Old_e1, Old_e2, fst3_e1, fst3_e2, lst2_e1, lst2_e2] at *
    have e5 : n = 5 := h5
    have ep : p = -1 := h1
    rcases o with ⟨q, -⟩ | ⟨-, h⟩
    · exact absurd ep q
    · exact ⟨Or.inr ⟨ep, fun k k0 k1 => h k k0 (by omega)⟩, Or.inr ⟨rfl, fun k k0 k1 => h (k + 3) (by omega) (by omega)⟩⟩
theorem Old_mend (hf : ∀ y, D.fr y = 0) (j0 : 0 ≤ j) (j1 : j < n) (h1 : tpg t = -1) (o : Old D (.br p n a c)) (ot : Old D t) : Old D (mend (-1) n a c j t) := by
  have ok := fun k k0 k1 => Old_kid hf o (k := k) k0 k1
  unfold mend
  split
  · rw [Old_e2]
    refine Or.inr ⟨rfl, fun k k0 k1 => ?_⟩
    unfold dlz
    split
    · exact ok k k0 (by omega)
    · exact ok (k + 1) (by omega) (by omega)
  · split
    · rename_i c0 c5
      obtain ⟨o1, o2⟩ := Old_5 h1 c5 ot
      rw [Old_e2]
      refine Or.inr ⟨rfl, fun k k0 k1 => ?_⟩
      unfold inz up
      split
      · split
        · exact o1
        · exact ok k k0 (by omega)
      · split
        · exact o2
        · split
          · exact o1
          · exact ok (k - 1) (by omega) (by omega)
    · rw [Old_e2]
      refine Or.inr ⟨rfl, fun k k0 k1 => ?_⟩
      unfold up
      split
      · exact ot
      · exact ok k k0 k1
theorem Old_chg (hf : ∀ y, D.fr y = 0) (hg : ∀ n a b, ∃ n' a' b', g n a b = .lf (-1) n' a' b') : ∀ {t : Tr} {h : Nat} {lo hi : Int}, Okt t h lo hi → Old D t → Old D (chg key g t) := by
  intro t
  induction t using Tr_rc with
  | lf p n a b =>
    try dsimp only [Okt_e1, Okt_e2, Old_e1, Old_e2] at *
    intro h lo hi o d
    obtain ⟨n', a', b', e⟩ := hg n a b
    show Old D (g n a b)
    rw [e]
    exact Or.inl rfl
  | br p n a cc ih =>
    try dsimp only [Okt_e1, Okt_e2, Old_e1, Old_e2] at *
    rintro h lo hi ⟨h', e, n0, n1, r⟩ d
    obtain ⟨s0, s1, s2, s3⟩ := slt_ok (n := n) (a := a) (key := key) n0
    exact Old_mend (p := p) (n := n) (a := a) (c := cc) hf s0 s1 (chg_pg hg _) d (ih _ (r _ s0 s1).2.2 (Old_kid (p := p) (n := n) (a := a) (c := cc) hf d s0 s1))
theorem Old_low (hf : ∀ y, D.fr y = 0) : ∀ {t : Tr}, Old D t → Old D (lowT t) := by
  intro t
  induction t using Tr_rc with
  | lf p n a b =>
    try dsimp only [Old_e1, Old_e2] at *
    exact fun h => h
  | br p n a cc ih =>
    try dsimp only [Old_e1, Old_e2] at *
    intro o
    try dsimp only [lowT_e1, lowT_e2]
    split
    · exact ih 0 (Old_kid (p := p) (n := n) (a := a) (c := cc) hf o (by omega) (by omega))
    · exact o
theorem Old_top (h1 : tpg t = -1) (o : Old D t) : Old D (topT t) := by
  unfold topT
  split
  · rename_i c5
    obtain ⟨o1, o2⟩ := Old_5 h1 c5 o
    rw [Old_e2]
    refine Or.inr ⟨rfl, fun k k0 k1 => ?_⟩
    try dsimp only
    split
    · exact o1
    · exact o2
  · exact o
theorem gPut_l : ∀ n a b, ∃ n' a' b', gPut key v n a b = .lf (-1) n' a' b' := fun n a b => ⟨_, _, _, rfl⟩
theorem gSet_l : ∀ n a b, ∃ n' a' b', gSet key v n a b = .lf (-1) n' a' b' := fun n a b => ⟨_, _, _, rfl⟩
theorem gDel_l : ∀ n a b, ∃ n' a' b', gDel key n a b = .lf (-1) n' a' b' := fun n a b => ⟨_, _, _, rfl⟩
theorem dT_old (hf : ∀ y, D.fr y = 0) (P : PTo T) (o : OldO D T) : OldO D (dT key v T) := by
  cases T with
  | none =>
    rw [dT_n]
    split
    · trivial
    · exact Or.inl rfl
  | some t =>
    obtain ⟨h, h12, ok, hz⟩ := P
    rw [dT_s]
    split
    · split
      · split
        · trivial
        · exact Old_low hf (Old_chg hf gDel_l ok o)
      · exact o
    · split
      · split
        · exact o
        · exact Old_chg hf gSet_l ok o
      · exact Old_top (chg_pg gPut_l t) (Old_chg hf gPut_l ok o)
theorem dL_pg (P : PTo T) (d : DPo T) (hl : dL key v T z) : PGo T z := by
  cases T with
  | none => exact hl
  | some t =>
    obtain ⟨h, h12, ok, hz⟩ := P
    rcases hl.2 with w | ⟨-, w⟩
    · exact WP_PG ok w
    · exact ((PG_chg gDel_l ok d z).mp (LPg_PG w)).1
theorem dT_pg (P : PTo T) (d : DPo T) : PGo (dT key v T) z ↔ PGo T z ∧ ¬ dL key v T z := by
  cases T with
  | none =>
    rw [dT_n]
    split
    · exact ⟨fun h => False.elim h, fun h => h.1⟩
    · exact ⟨fun h => absurd rfl h.1, fun h => False.elim h.1⟩
  | some t =>
    obtain ⟨h, h12, ok, hz⟩ := P
    have keep : ¬ dA key v (some t) → (PGo (some t) z ↔ PGo (some t) z ∧ ¬ dL key v (some t) z) := fun na => ⟨fun q => ⟨q, fun w => na w.1⟩, fun q => q.1⟩
    rw [dT_s]
    by_cases cv : v = 100
    · rw [if_pos cv]
      by_cases hn : atL key (hasL key) t
      · have hA : dA key v (some t) := Or.inl ⟨cv, hn⟩
        rw [if_pos hn]
        have pc := PG_chg (key := key) (g := gDel key) gDel_l ok d z
        by_cases c0 : tsz (chg key (gDel key) t) = 0
        · rw [if_pos c0]
          try dsimp only [atL_e1, atL_e2, WP_e1, WP_e2, PG_e1, PG_e2]
          refine ⟨fun q => False.elim q, fun q => ?_⟩
          exact absurd (pc.mpr ⟨q.1, fun w => q.2 ⟨hA, Or.inl w⟩⟩) (PG_0 (chg_pg gDel_l t) c0)
        · rw [if_neg c0]
          show PG (lowT (chg key (gDel key) t)) z ↔ _
          rw [PG_low (DPg_chg gDel_l ok d) z, pc]
          constructor
          · rintro ⟨⟨q1, q2⟩, q3⟩
            try dsimp only [atL_e1, atL_e2, WP_e1, WP_e2, PG_e1, PG_e2]
            refine ⟨q1, ?_⟩
            rintro ⟨-, w | ⟨-, w⟩⟩
            · exact q2 w
            · exact q3 w
          · rintro ⟨q1, q2⟩
            exact ⟨⟨q1, fun w => q2 ⟨hA, Or.inl w⟩⟩, fun w => q2 ⟨hA, Or.inr ⟨cv, w⟩⟩⟩
      · rw [if_neg hn]
        exact keep (fun q => q.elim (fun q => hn q.2) (fun q => q.1 cv))
    · rw [if_neg cv]
      have dl : dA key v (some t) → (dL key v (some t) z ↔ WP key t z) := fun hA => ⟨fun q => q.2.elim id (fun q => absurd q.1 cv), fun q => ⟨hA, Or.inl q⟩⟩
      by_cases hn : atL key (hasL key) t
      · rw [if_pos hn]
        by_cases hv : valK key t = v
        · rw [if_pos hv]
          exact keep (fun q => q.elim (fun q => cv q.1) (fun q => q.2 ⟨hn, hv⟩))
        · rw [if_neg hv, dl (Or.inr ⟨cv, fun q => hv q.2⟩)]
          exact PG_chg gSet_l ok d z
      · rw [if_neg hn, dl (Or.inr ⟨cv, fun q => hn q.1⟩)]
        show PG (topT (chg key (gPut key v) t)) z ↔ _
        rw [PG_top (chg_pg gPut_l t)]
        exact PG_chg gPut_l ok d z
/-- of the pages of the disk's tree each is left, or still one of the tree -/
noncomputable def LfP (Lv : Int → Prop) (T : Option Tr) (Lf : Int → Prop) : Prop := ∀ z, (Lv z ↔ PGo T z ∨ Lf z) ∧ (PGo T z → ¬ Lf z)
theorem LfP_step {Lv Lf : Int → Prop} (P : PTo T) (d : DPo T) (H : LfP Lv T Lf) : LfP Lv (dT key v T) (fun z => Lf z ∨ dL key v T z) := by
  intro z
  obtain ⟨h1, h2⟩ := H z
  have e := dT_pg (key := key) (v := v) (z := z) P d
  have w := dL_pg (key := key) (v := v) (z := z) P d
  rw [e]
  constructor
  · rw [h1]
    constructor
    · rintro (q | q)
      · by_cases c : dL key v T z
        · exact Or.inr (Or.inr c)
        · exact Or.inl ⟨q, c⟩
      · exact Or.inr (Or.inl q)
    · rintro (q | q | q)
      · exact Or.inl q.1
      · exact Or.inr q
      · exact Or.inl (w q)
  · rintro ⟨q1, q2⟩ (q | q)
    · exact h2 q1 q
    · exact q2 q
end PG2
