/-! WHAT HOLDS stays, while pages that none needs are written -/
noncomputable def GoodR (x : Int → Int) (p : Int) : Prop := (pg x p 0 = 1 ∨ pg x p 0 = 2 ∨ pg x p 0 = 3 ∨ pg x p 0 = 5) ∧ 0 ≤ pg x p 1 ∧ pg x p 1 ≤ 6 ∧ (pg x p 0 = 5 → pg x p 1 = 0) ∧ (pg x p 0 = 1 ∨ pg x p 0 = 2 → 1 ≤ pg x p 1 ∧ pg x p 1 ≤ 4) ∧ 0 ≤ pg x p 2 ∧ pg x p 2 ≤ 9999 ∧ (pg x p 0 ≠ 3 → pg x p 3 = -1)
noncomputable def GoodH (x : Int → Int) (p : Int) : Prop := pg x p 0 = 5 ∧ pg x p 1 = 0 ∧ 0 ≤ pg x p 2 ∧ pg x p 2 ≤ 9999 ∧ pg x p 3 = -1
section IVW
variable {m x : Int → Int} {b K : Int} {Wst Lv : Int → Prop}
theorem Lst_fun (Hl : LsOk m) {p n n' : Int} (h : Lst m (SLs m) p n) (h' : Lst m (SLs m) p n') : n = n' := by
  have a := FRl_yes (F := fun _ => q_I (-1)) Hl.2.2.1 Hl.2.2.2.1 h
  have b := FRl_yes (F := fun _ => q_I (-1)) Hl.2.2.1 Hl.2.2.2.1 h'
  have hn := Hl.2.2.2.2 p n h
  have hn' := Hl.2.2.2.2 p n' h'
  rcases fr_cases Hl p with ⟨q, hq⟩ | ⟨k, q1, q2, q3, q4, q5, q6, q7, q8⟩
  · exact absurd h (hq n)
  · have e1 : (FRm m p).toInt = q_sg n := by
      unfold FRm
      rw [a]
      rfl
    have e2 : (FRm m p).toInt = q_sg n' := by
      unfold FRm
      rw [b]
      rfl
    obtain ⟨y, hy, j, j0, j1, j2, j3⟩ := h
    obtain ⟨y', hy', j', j0', j1', j2', j3'⟩ := h'
    have r := (Hl.2.2.1.1 y hy).2 j j0 j1
    have r' := (Hl.2.2.1.1 y' hy').2 j' j0' j1'
    rw [q_sg_id (by omega) (by omega)] at e1 e2
    omega
/-- a page that may be taken is none of a tree that is read, nor of the list -/
theorem TK_free (I : Inv m b) (hb : b < 2147483646) (D : Dsk m Lv) (k0 : 0 ≤ K) (kc : K ≤ cap m) {p : Int} (h : TK m K p) : ¬ Lv p ∧ p ∉ SLs m ∧ ∀ r, 0 ≤ r → r < 4 → m (9 + 2 * r) ≠ -1 → ∀ Lr : Int → Prop, TreeD m (hc m 3) Lr (m (10 + 2 * r)) → (∀ p, Lr p → Lv p ∨ ∃ n, m (9 + 2 * r) < n ∧ Lst m (SLs m) p n) → ¬ Lr p := by
  have Hl := inv_ls I (by omega)
  have Si := inv_si I (by omega)
  have inT : ∀ {r : Int} {Lr : Int → Prop}, TreeD m (hc m 3) Lr r → Lr p → p < hc m 3 := fun {r Lr} T hp => by
    rcases T with ⟨-, h⟩ | ⟨n, ht, hb', hn, T, Od, h2⟩
    · exact absurd hp (h p)
    · exact (T.2.1 p hp).2.1
  rcases h with ⟨u, -⟩ | ⟨a1, a2⟩
  · rcases fr_cases Hl p with ⟨q, -⟩ | ⟨n, q1, q2, q3, q4, q5, q6, q7, q8⟩
    · exact absurd q u.1
    · have nl : ¬ Lv p := fun h => (D.1 p h).2.2.2 n q1
      refine ⟨nl, q7, fun r r0 r1 hr Lr T hL hp => ?_⟩
      rcases hL p hp with h | ⟨n', h1, h2⟩
      · exact nl h
      · have := Lst_fun Hl q1 h2
        have := ((LM_iff m n).mp (by rw [← q2]; exact u.2)).2 r r0 r1 hr
        omega
  · refine ⟨fun h => by have := (D.1 p h).2.1; omega, fun h => by have := (Si p h).2.1; omega, fun r r0 r1 hr Lr T hL hp => ?_⟩
    have := inT T hp
    omega
theorem hd_w (I : Inv m b) (hx : ∀ p, 0 ≤ p → p < 48 → ¬ Wst p → ∀ w, 0 ≤ w → w < 16 → pg x p w = pg m p w) (h1 : ¬ Wst (hd m)) (h2 : Wst (1 - hd m) → pg x (1 - hd m) 0 = 5) : hd x = hd m := by
  have hh := hd_01 m
  have k4 := I.1.1.2.2.1
  have a0 : ¬ Wst 0 → x 281 = m 281 ∧ x 285 = m 285 := fun h => ⟨hx 0 (by omega) (by omega) h 0 (by omega) (by omega), hx 0 (by omega) (by omega) h 4 (by omega) (by omega)⟩
  have a1 : ¬ Wst 1 → x 297 = m 297 ∧ x 301 = m 301 := fun h => ⟨hx 1 (by omega) (by omega) h 0 (by omega) (by omega), hx 1 (by omega) (by omega) h 4 (by omega) (by omega)⟩
  rcases (show hd m = 0 ∨ hd m = 1 by omega) with e | e
  · rw [e] at h1 h2 k4
    have k4 : m 281 = 4 := k4
    obtain ⟨b1, b2⟩ := a0 h1
    by_cases w : Wst 1
    · have h5 : x 297 = 5 := h2 w
      rw [e]
      unfold hd
      rw [if_neg (by omega), if_neg (by omega)]
    · obtain ⟨c1, c2⟩ := a1 w
      unfold hd
      rw [b1, b2, c1, c2]
  · rw [e] at h1 h2 k4
    obtain ⟨c1, c2⟩ := a1 h1
    by_cases w : Wst 0
    · have h5 : x 281 = 5 := h2 w
      rw [e]
      unfold hd
      rw [if_pos (by omega)]
    · obtain ⟨b1, b2⟩ := a0 w
      unfold hd
      rw [b1, b2, c1, c2]
theorem DiskI_w (I : Inv m b) (hb : b < 2147483646) (k0 : 0 ≤ K) (kc : K ≤ cap m) (hx : ∀ p, 0 ≤ p → p < 48 → ¬ Wst p → ∀ w, 0 ≤ w → w < 16 → pg x p w = pg m p w) (hW : ∀ p, Wst p → (TK m K p ∧ GoodR x p) ∨ (p = 1 - hd m ∧ GoodH x p)) (hrd : ∀ r, 0 ≤ r → r < 4 → x (9 + 2 * r) ≠ -1 → x (9 + 2 * r) = m (9 + 2 * r) ∧ x (10 + 2 * r) = m (10 + 2 * r)) : DiskI x b := by
  have hh := hd_01 m
  have Tk := inv_tk I (by omega)
  obtain ⟨sl, esl, Ld, Lv, T, Dj, Rd⟩ := inv_sl I
  have D : Dsk m Lv := by
    refine ⟨fun p hp => ?_, by rw [esl]; exact Rd⟩
    have : 2 ≤ p ∧ p < hc m 3 := by
      rcases T with ⟨-, h⟩ | ⟨n, ht, hb', hn, T, Od, h2⟩
      · exact absurd hp (h p)
      · exact ⟨(T.2.1 p hp).1, (T.2.1 p hp).2.1⟩
    rw [esl]
    exact ⟨this.1, this.2, Dj p hp⟩
  have tk2 : ∀ p, TK m K p → 2 ≤ p ∧ p < 48 := fun p h => by have := TK_rg Tk kc k0 h; omega
  have nh : ¬ Wst (hd m) := fun h => by
    rcases hW _ h with ⟨h1, -⟩ | ⟨h1, -⟩
    · have := tk2 _ h1
      omega
    · omega
  have h5 : Wst (1 - hd m) → pg x (1 - hd m) 0 = 5 ∧ pg x (1 - hd m) 1 = 0 := fun h => by
    rcases hW _ h with ⟨h1, -⟩ | ⟨-, h1⟩
    · have := tk2 _ h1
      omega
    · exact ⟨h1.1, h1.2.1⟩
  have ehd := hd_w I hx nh (fun h => (h5 h).1)
  have ehc : ∀ w, 0 ≤ w → w < 12 → hc x w = hc m w := fun w w0 w1 => by
    show pg x (hd x) (4 + w) = pg m (hd m) (4 + w)
    rw [ehd]
    exact hx _ (by omega) (by omega) nh _ (by omega) (by omega)
  have nLv : ∀ p, Lv p → ¬ Wst p := fun p hp h => by
    rcases hW p h with ⟨h1, -⟩ | ⟨h1, -⟩
    · exact (TK_free I hb D k0 kc h1).1 hp
    · have := D.1 p hp
      omega
  have nsl : ∀ p, p ∈ sl → ¬ Wst p := fun p hp h => by
    have hp' : p ∈ SLs m := by rw [esl]; exact hp
    rcases hW p h with ⟨h1, -⟩ | ⟨h1, -⟩
    · exact (TK_free I hb D k0 kc h1).2.1 hp'
    · have := inv_si I (by omega) p hp'
      omega
  obtain ⟨⟨a1, a2, a3, a4, a5⟩, aP, aW, ⟨n0, n1, n2, n3⟩, -⟩ := I.1
  have hm := Chn_mem sl _ Ld.1
  have ws : ∀ y, y ∈ sl → ∀ w, 0 ≤ w → w < 16 → pg x y w = pg m y w := fun y hy w w0 w1 => hx y (by have := hm y hy; omega) (by have := hm y hy; omega) (nsl y hy) w w0 w1
  have rws6 : ∀ y, y ∈ sl → pg m y 1 ≤ 6 := fun y hy => (aP y (hm y hy).1 (hm y hy).2.1).2.2.1
  have eL : ∀ p n, Lst x sl p n ↔ Lst m sl p n := fun p n => Lst_ext rws6 (fun y hy w w0 w1 _ => ws y hy w w0 w1)
  have tex : ∀ {Lr : Int → Prop} {r : Int}, TreeD m (hc m 3) Lr r → (∀ p, Lr p → ¬ Wst p) → TreeD x (hc x 3) Lr r := fun {Lr r} T' hn => by
    rw [ehc 3 (by omega) (by omega)]
    refine TreeD_ext T' (fun p hp w w0 w1 _ => ?_)
    have : 0 ≤ p ∧ p < 48 := by
      rcases T' with ⟨-, h⟩ | ⟨n, ht, hb', hn', T', Od, h2⟩
      · exact absurd hp (h p)
      · have := T'.2.1 p hp
        omega
    exact hx p this.1 this.2 (hn p hp) w w0 w1
  have hp1 : pg x (1 - hd m) 0 = 4 ∨ pg x (1 - hd m) 0 = 5 := by
    by_cases w : Wst (1 - hd m)
    · exact Or.inr (h5 w).1
    · rw [hx _ (by omega) (by omega) w 0 (by omega) (by omega)]
      rcases (show hd m = 0 ∨ hd m = 1 by omega) with e | e
      · rw [e]
        exact a2
      · rw [e]
        exact a1
  have hp0 : pg x (hd m) 0 = 4 := by rw [hx _ (by omega) (by omega) nh 0 (by omega) (by omega)]; exact a3
  have hr0 : pg x (hd m) 1 = 0 := by
    rw [hx _ (by omega) (by omega) nh 1 (by omega) (by omega)]
    rcases (show hd m = 0 ∨ hd m = 1 by omega) with e | e
    · rw [e]
      exact a4
    · rw [e]
      exact a5
  have hr1 : pg x (1 - hd m) 1 = 0 := by
    by_cases w : Wst (1 - hd m)
    · exact (h5 w).2
    · rw [hx _ (by omega) (by omega) w 1 (by omega) (by omega)]
      rcases (show hd m = 0 ∨ hd m = 1 by omega) with e | e
      · rw [e]
        exact a5
      · rw [e]
        exact a4
  refine ⟨⟨?_, ?_, by rw [ehd]; exact hp0, ?_, ?_⟩, fun p p2 p48 => ?_, fun p p0 p48 => ?_, ⟨by rw [ehc 0 (by omega) (by omega)]; exact n0, by rw [ehc 0 (by omega) (by omega)]; exact n1, by rw [ehc 3 (by omega) (by omega)]; exact n2, by rw [ehc 3 (by omega) (by omega)]; exact n3⟩, Lv, sl, ?_, ?_, fun p hp => ⟨(Dj p hp).1, fun n hn => (Dj p hp).2 n ((eL p n).mp hn)⟩, fun r r0 r1 hr => ?_⟩
  · rcases (show hd m = 0 ∨ hd m = 1 by omega) with e | e
    · rw [e] at hp0
      exact Or.inl hp0
    · rw [e] at hp1
      exact hp1
  · rcases (show hd m = 0 ∨ hd m = 1 by omega) with e | e
    · rw [e] at hp1
      exact hp1
    · rw [e] at hp0
      exact Or.inl hp0
  · rcases (show hd m = 0 ∨ hd m = 1 by omega) with e | e
    · rw [e] at hr0
      exact hr0
    · rw [e] at hr1
      exact hr1
  · rcases (show hd m = 0 ∨ hd m = 1 by omega) with e | e
    · rw [e] at hr1
      exact hr1
    · rw [e] at hr0
      exact hr0
  · by_cases w : Wst p
    · rcases hW p w with ⟨-, g1, g2, g3, g4, g5, g6⟩ | ⟨h1, -⟩
      · exact ⟨by omega, g2, g3, fun h => g4 (by omega), g5⟩
      · omega
    · rw [hx p (by omega) p48 w 0 (by omega) (by omega), hx p (by omega) p48 w 1 (by omega) (by omega)]
      exact aP p p2 p48
  · by_cases w : Wst p
    · rcases hW p w with ⟨-, g1, g2, g3, g4, g5, g6, g7, g8⟩ | ⟨-, g1, g2, g3, g4, g5⟩
      · exact ⟨g6, g7, g8⟩
      · exact ⟨g3, g4, fun _ => g5⟩
    · rw [hx p p0 p48 w 2 (by omega) (by omega), hx p p0 p48 w 0 (by omega) (by omega), hx p p0 p48 w 3 (by omega) (by omega)]
      exact aW p p0 p48
  · rw [ehc 1 (by omega) (by omega)]
    exact tex T nLv
  · obtain ⟨l1, l2, l3, l4, l5⟩ := Ld
    refine ⟨?_, l2, fun y hy => by rw [ehc 3 (by omega) (by omega)]; exact l3 y hy, fun p n hn => ?_, fun y y' k k' hy hy' k0 k1 k0' k1' e => ?_⟩
    · rw [ehc 2 (by omega) (by omega)]
      exact Chn_ext sl _ l1 (fun y hy => ⟨ws y hy 0 (by omega) (by omega), ws y hy 3 (by omega) (by omega)⟩)
    · rw [ehc 3 (by omega) (by omega), ehc 0 (by omega) (by omega)]
      exact l4 p n ((eL p n).mp hn)
    · have r6 := rws6 y hy
      have r6' := rws6 y' hy'
      rw [ws y hy 1 (by omega) (by omega)] at k1
      rw [ws y' hy' 1 (by omega) (by omega)] at k1'
      rw [ws y hy (4 + k) (by omega) (by omega), ws y' hy' (4 + k') (by omega) (by omega)] at e
      exact l5 y y' k k' hy hy' k0 k1 k0' k1' e
  · obtain ⟨e1, e2⟩ := hrd r r0 r1 hr
    rw [e1] at hr
    obtain ⟨b1, b2, Lr, b3, b4⟩ := Rd r r0 r1 hr
    rw [e1, e2, ehc 0 (by omega) (by omega)]
    refine ⟨b1, b2, Lr, tex b3 (fun p hp h => ?_), fun p hp => ?_⟩
    · rcases hW p h with ⟨h1, -⟩ | ⟨h1, -⟩
      · exact (TK_free I hb D k0 kc h1).2.2 r r0 r1 hr Lr b3 (by rw [esl]; exact b4) hp
      · rcases b3 with ⟨-, h⟩ | ⟨n, ht, hb', hn', T', Od, h2⟩
        · exact absurd hp (h p)
        · have := T'.2.1 p hp
          omega
    · rcases b4 p hp with h | ⟨n, h1, h2⟩
      · exact Or.inl h
      · exact Or.inr ⟨n, h1, (eL p n).mpr h2⟩
end IVW
