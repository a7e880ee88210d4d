/-! A CHANGE of the draft, apart from where it stands -/
noncomputable def dT (key v : Int) : Option Tr → Option Tr
  | none => if v = 100 then none else some (.lf (-1) 1 (fun _ => key) (fun _ => v))
  | some t => if v = 100 then (@ite _ (atL key (hasL key) t) (Classical.propDecidable _) (if tsz (chg key (gDel key) t) = 0 then none else some (lowT (chg key (gDel key) t))) (some t)) else @ite _ (atL key (hasL key) t) (Classical.propDecidable _) (if valK key t = v then some t else some (chg key (gSet key v) t)) (some (topT (chg key (gPut key v) t)))
/-- whether something is altered; pages that are left -/
noncomputable def dA (key v : Int) : Option Tr → Prop
  | none => v ≠ 100
  | some t => (v = 100 ∧ atL key (hasL key) t) ∨ (v ≠ 100 ∧ ¬ (atL key (hasL key) t ∧ valK key t = v))
noncomputable def dL (key v : Int) : Option Tr → Int → Prop
  | none, _ => False
  | some t, z => dA key v (some t) ∧ (WP key t z ∨ v = 100 ∧ LPg (chg key (gDel key) t) z)
noncomputable def PTt (t : Tr) : Prop := ∃ h : Nat, h ≤ 12 ∧ Okt t h 0 100 ∧ (2 ≤ tsz t ∨ h = 0)
noncomputable def PTo : Option Tr → Prop
  | none => True
  | some t => PTt t
noncomputable def pot (q : Int) : Option Tr → Int
  | none => 0
  | some t => tw (wt q) t
/-- how many nodes a change makes -/
noncomputable def dN (key v : Int) : Option Tr → Int
  | none => if v = 100 then 0 else 1
  | some t => if v = 100 then 0 else @ite _ (atL key (hasL key) t) (Classical.propDecidable _) 0 (mdz key (gPut key v) t + (if tsz (chg key (gPut key v) t) = 5 then 2 else 0))
noncomputable def dR (q key v : Int) : Option Tr → Int
  | none => 0
  | some t => @ite _ ((v = 100 ∧ atL key (hasL key) t) ∨ (v ≠ 100 ∧ ¬ (atL key (hasL key) t ∧ valK key t = v))) (Classical.propDecidable _) (rnw q key t) 0
section DST
theorem dT_n (key v : Int) : dT key v none = if v = 100 then none else some (.lf (-1) 1 (fun _ => key) (fun _ => v)) := rfl
theorem dT_s (key v : Int) (t : Tr) : dT key v (some t) = if v = 100 then (@ite _ (atL key (hasL key) t) (Classical.propDecidable _) (if tsz (chg key (gDel key) t) = 0 then none else some (lowT (chg key (gDel key) t))) (some t)) else @ite _ (atL key (hasL key) t) (Classical.propDecidable _) (if valK key t = v then some t else some (chg key (gSet key v) t)) (some (topT (chg key (gPut key v) t))) := rfl
theorem dN_n (key v : Int) : dN key v none = if v = 100 then 0 else 1 := rfl
theorem dN_s (key v : Int) (t : Tr) : dN key v (some t) = if v = 100 then 0 else @ite _ (atL key (hasL key) t) (Classical.propDecidable _) 0 (mdz key (gPut key v) t + (if tsz (chg key (gPut key v) t) = 5 then 2 else 0)) := rfl
theorem dR_n (q key v : Int) : dR q key v none = 0 := rfl
theorem dR_s (q key v : Int) (t : Tr) : dR q key v (some t) = @ite _ ((v = 100 ∧ atL key (hasL key) t) ∨ (v ≠ 100 ∧ ¬ (atL key (hasL key) t ∧ valK key t = v))) (Classical.propDecidable _) (rnw q key t) 0 := rfl
variable {key v q : Int} {t : Tr} {h : Nat} {lo hi : Int}
theorem chg_put_sz : ∀ {t : Tr} {h : Nat} {lo hi : Int}, Okt t h lo hi → tsz t ≤ tsz (chg key (gPut key v) t) := by
  intro t
  induction t using Tr_rc with
  | lf p n a b =>
    try dsimp only [Okt_e1, Okt_e2] at *
    intro h lo hi _
    show n ≤ n + 1
    omega
  | br p n a cc ih =>
    try dsimp only [Okt_e1, Okt_e2] at *
    rintro h lo hi ⟨h', e, n0, n1, r⟩
    obtain ⟨s0, s1, s2, s3⟩ := slt_ok (n := n) (a := a) (key := key) n0
    have := ih _ (r _ s0 s1).2.2
    have sz := (Okt_R (r _ s0 s1).2.2).2
    try dsimp only [chg_e1, chg_e2]
    unfold mend
    rw [if_neg (by omega)]
    split
    · show n ≤ n + 1
      omega
    · exact Int.le_refl _
theorem low_ok : ∀ {t : Tr} {h : Nat} {lo hi : Int}, Okt t h lo hi → (∃ h', h' ≤ h ∧ Okt (lowT t) h' lo hi ∧ (2 ≤ tsz (lowT t) ∨ h' = 0)) := by
  intro t
  induction t using Tr_rc with
  | lf p n a b =>
    try dsimp only [Okt_e1, Okt_e2] at *
    exact fun {h lo hi} o => ⟨h, Nat.le_refl _, o, Or.inr o.1⟩
  | br p n a cc ih =>
    try dsimp only [Okt_e1, Okt_e2] at *
    intro h lo hi o
    have o' := o
    obtain ⟨h', e, n0, n1, r⟩ := o
    try dsimp only [lowT_e1, lowT_e2]
    by_cases c1 : n = 1
    · rw [if_pos c1]
      obtain ⟨r1, r2, r3⟩ := r 0 (by omega) (by omega)
      rw [if_neg (by omega)] at r3
      obtain ⟨h2, g1, g2, g3⟩ := ih 0 (Okt_lo r3 (lo' := lo) (by rw [r2]; exact r1))
      exact ⟨h2, by omega, g2, g3⟩
    · rw [if_neg c1]
      exact ⟨h, Nat.le_refl _, o', Or.inl (by show 2 ≤ n; omega)⟩
theorem low_tw (hq : 0 ≤ q) : ∀ t, tw (wt q) (lowT t) ≤ tw (wt q) t := by
  intro t
  induction t using Tr_rc with
  | lf p n a b =>
    exact Int.le_refl _
  | br p n a cc ih =>
    try dsimp only [lowT_e1, lowT_e2]
    by_cases c1 : n = 1
    · subst c1
      rw [if_pos rfl]
      have := ih 0
      have := wt_0 hq p 1
      show _ ≤ wt q p 1 + smz (fun k => tw (wt q) (cc k)) 1
      have e : smz (fun k => tw (wt q) (cc k)) 1 = 0 + tw (wt q) (cc 0) := rfl
      omega
    · rw [if_neg c1]
      exact Int.le_refl _
theorem top_tw : tw (wt q) (topT t) + (if tsz t = 5 then 2 else 0) = tw (wt q) t := by
  unfold topT
  by_cases c5 : tsz t = 5
  · rw [if_pos c5, if_pos c5]
    have := tw_split (q := q) c5
    have e : tw (wt q) (.br (-1) 2 (fun k => if k = 0 then tlst t else tlst (lst2 t)) (fun k => if k = 0 then fst3 t else lst2 t)) = wt q (-1) 2 + (0 + tw (wt q) (fst3 t) + tw (wt q) (lst2 t)) := rfl
    have e2 : wt q (-1) 2 = 0 := by simp [wt]
    omega
  · rw [if_neg c5, if_neg c5]
    omega
theorem top_ok (o : OkR t h lo hi) (h1 : 1 ≤ tsz t) (h5 : tsz t ≤ 5) : Okt (topT t) (if tsz t = 5 then h + 1 else h) lo hi := by
  unfold topT
  by_cases c5 : tsz t = 5
  · rw [if_pos c5, if_pos c5]
    obtain ⟨p1, p2, p3, p4⟩ := OkR_split o c5
    have l1 := Okt_lst p1
    rw [p3] at l1
    try dsimp only [Okt_e1, Okt_e2, OkR_e1, OkR_e2, fst3_e1, fst3_e2]
    refine ⟨h, rfl, by omega, by omega, fun k k0 k1 => ?_⟩
    by_cases e : k = 0
    · subst e
      exact ⟨l1, p3, Okt_lo p1 (show tlst t ≤ tlst (fst3 t) by rw [p3]; exact Int.le_refl _)⟩
    · have e : k = 1 := by omega
      subst e
      exact ⟨p4, rfl, p2⟩
  · rw [if_neg c5, if_neg c5]
    exact OkR_t o h1 (by omega)
theorem OkR_sz (o : OkR t h lo hi) : 0 ≤ tsz t ∧ tsz t ≤ 5 := by
  cases t using Tr_cs with
  | lf _ _ _ _ =>
    try dsimp only [OkR_e1, OkR_e2] at *
    exact ⟨o.2.1, o.2.2.1⟩
  | br _ _ _ _ =>
    try dsimp only [OkR_e1, OkR_e2] at *
    obtain ⟨_, _, z1, z2, _⟩ := o
    exact ⟨z1, z2⟩
theorem fulw12 : fulw 12 = 247 := by decide
/-- what is right stays right, if there are not too many nodes -/
theorem dT_ok (k0 : 0 ≤ key) (k1 : key < 100) (v0 : 0 ≤ v) (v1 : v ≤ 100) {T : Option Tr} (P : PTo T) (hc : ∀ t, T = some t → cnt t ≤ 200) : PTo (dT key v T) := by
  cases T with
  | none =>
    rw [dT_n]
    by_cases c1 : v = 100
    · rw [if_pos c1]
      trivial
    · rw [if_neg c1]
      exact ⟨0, by omega, (show (0 : Nat) = 0 ∧ 1 ≤ (1 : Int) ∧ (1 : Int) ≤ 4 ∧ OkL 1 (fun _ => key) (fun _ => v) 0 100 from ⟨rfl, by omega, by omega, fun k _ _ => ⟨k0, k1, v0, by show v < 100; omega⟩, fun k z0 z1 => by omega⟩), Or.inr rfl⟩
  | some t =>
    obtain ⟨h, h12, o, hz⟩ := P
    rw [dT_s]
    by_cases c1 : v = 100
    · rw [if_pos c1]
      by_cases c2 : atL key (hasL key) t
      · rw [if_pos c2]
        have okR := chg_ok (key := key) (g := gDel key) (Q := hasL key) gDel_ok o k0 k1 c2
        obtain ⟨z4, -⟩ := chg_del_sz (key := key) o
        by_cases c0 : tsz (chg key (gDel key) t) = 0
        · rw [if_pos c0]
          trivial
        · rw [if_neg c0]
          have := (OkR_sz okR).1
          obtain ⟨h', g1, g2, g3⟩ := low_ok (OkR_t okR (by omega) z4)
          exact ⟨h', by omega, g2, g3⟩
      · rw [if_neg c2]
        exact ⟨h, h12, o, hz⟩
    · rw [if_neg c1]
      by_cases c2 : atL key (hasL key) t
      · rw [if_pos c2]
        by_cases c3 : valK key t = v
        · rw [if_pos c3]
          exact ⟨h, h12, o, hz⟩
        · rw [if_neg c3]
          have okR := chg_ok (key := key) (g := gSet key v) (Q := hasL key) (gSet_ok v0 (by omega)) o k0 k1 c2
          obtain ⟨-, e⟩ := chg_set_l (key := key) (v := v) o
          have sz := (Okt_R o).2
          exact ⟨h, h12, OkR_t okR (by omega) (by omega), by rw [e]; exact hz⟩
      · rw [if_neg c2]
        have c2' : atL key (fun n a b => ¬ hasL key n a b) t := by
          have neg : ∀ t : Tr, ¬ atL key (hasL key) t → atL key (fun n a b => ¬ hasL key n a b) t := by
            intro t
            induction t using Tr_rc with
            | lf p n a b =>
              try dsimp only [atL_e1, atL_e2] at *
              exact fun z => z
            | br p n a cc ih =>
              try dsimp only [atL_e1, atL_e2] at *
              exact ih _
          exact neg t c2
        have okR := chg_ok (key := key) (g := gPut key v) (Q := fun n a b => ¬ hasL key n a b) (gPut_ok v0 (by omega)) o k0 k1 c2'
        have ps := chg_put_sz (key := key) (v := v) o
        have sz := (Okt_R o).2
        have z5 := (OkR_sz okR).2
        have tk := top_ok okR (by omega) z5
        by_cases c5 : tsz (chg key (gPut key v) t) = 5
        · rw [if_pos c5] at tk
          have fw := cnt_full (key := key) (g := gPut key v) (fun n a b _ _ e => by
            have e : n + 1 = 5 := e
            omega) o c5
          have := hc t rfl
          have : h ≠ 12 := fun e => by
            rw [e, fulw12] at fw
            omega
          try dsimp only [atL_e1, atL_e2]
          refine ⟨h + 1, by omega, tk, Or.inl ?_⟩
          unfold topT
          rw [if_pos c5]
          show (2 : Int) ≤ 2
          omega
        · rw [if_neg c5] at tk
          try dsimp only [atL_e1, atL_e2]
          refine ⟨h, h12, tk, ?_⟩
          unfold topT
          rw [if_neg c5]
          rcases hz with e | e
          · exact Or.inl (by omega)
          · exact Or.inr e
/-- what nodes are made and renewed is paid for -/
theorem dT_pot (hq : q = 0 ∨ q = 1) {T : Option Tr} (P : PTo T) : pot q (dT key v T) + dN key v T + dR q key v T ≤ pot q T + 1 := by
  have hq0 : 0 ≤ q := by omega
  cases T with
  | none =>
    rw [dT_n, dN_n, dR_n]
    by_cases c1 : v = 100
    · rw [if_pos c1, if_pos c1]
      show (0 : Int) + 0 + 0 ≤ 0 + 1
      omega
    · rw [if_neg c1, if_neg c1]
      show wt q (-1) 1 + 1 + 0 ≤ 0 + 1
      simp [wt]
  | some t =>
    obtain ⟨h, h12, o, hz⟩ := P
    have gP := chg_tw (key := key) (g := gPut key v) hq0 (fun n a b n0 n1 => by
      show wt q (-1) (n + 1) ≤ wt 0 (-1) n + 1
      unfold wt
      simp
      split <;> split <;> omega) o
    have gS := chg_tw (key := key) (g := gSet key v) hq0 (fun n a b n0 n1 => by
      show wt q (-1) n ≤ wt 0 (-1) n + 1
      unfold wt
      simp
      omega) o
    have gD := chg_tw (key := key) (g := gDel key) hq0 (fun n a b n0 n1 => by
      show wt q (-1) (n - 1) ≤ wt 0 (-1) n + 1
      unfold wt
      simp
      split <;> split <;> omega) o
    have rn := rnw_0 (key := key) hq0 t
    have m0 := mdz_0 (key := key) (g := gSet key v) t
    have m1 := mdz_0 (key := key) (g := gDel key) t
    have t0 := tw_0 (wt_0 hq0) (chg key (gDel key) t)
    have lw := low_tw (q := q) hq0 (chg key (gDel key) t)
    have tp := top_tw (q := q) (t := chg key (gPut key v) t)
    rw [dT_s, dN_s, dR_s]
    by_cases c1 : v = 100
    · rw [if_pos c1, if_pos c1]
      by_cases c2 : atL key (hasL key) t
      · rw [if_pos c2, if_pos (Or.inl ⟨c1, c2⟩)]
        by_cases c0 : tsz (chg key (gDel key) t) = 0
        · rw [if_pos c0]
          show 0 + 0 + rnw q key t ≤ tw (wt q) t + 1
          omega
        · rw [if_neg c0]
          show tw (wt q) (lowT (chg key (gDel key) t)) + 0 + rnw q key t ≤ tw (wt q) t + 1
          omega
      · rw [if_neg c2, if_neg (fun z => z.elim (fun z => c2 z.2) (fun z => z.1 c1))]
        show tw (wt q) t + 0 + 0 ≤ tw (wt q) t + 1
        omega
    · rw [if_neg c1, if_neg c1]
      by_cases c2 : atL key (hasL key) t
      · rw [if_pos c2, if_pos c2]
        by_cases c3 : valK key t = v
        · rw [if_pos c3, if_neg (fun z => z.elim (fun z => c1 z.1) (fun z => z.2 ⟨c2, c3⟩))]
          show tw (wt q) t + 0 + 0 ≤ tw (wt q) t + 1
          omega
        · rw [if_neg c3, if_pos (Or.inr ⟨c1, fun z => c3 z.2⟩)]
          show tw (wt q) (chg key (gSet key v) t) + 0 + rnw q key t ≤ tw (wt q) t + 1
          omega
      · rw [if_neg c2, if_neg c2, if_pos (Or.inr ⟨c1, fun z => c2 z.1⟩)]
        show tw (wt q) (topT (chg key (gPut key v) t)) + (mdz key (gPut key v) t + (if tsz (chg key (gPut key v) t) = 5 then 2 else 0)) + rnw q key t ≤ tw (wt q) t + 1
        omega
end DST
