/-! what is said of a row depends on its cells alone that are told -/
section EX
variable {m m' : Int → Int} {top : Int} {Lv : Int → Prop} {r b : Int}
theorem TreeD_ext (T : TreeD m top Lv r) (e : ∀ p, Lv p → ∀ w, 0 ≤ w → w < 16 → w ≠ 2 → pg m' p w = pg m p w) : TreeD m' top Lv r := by
  rcases T with h | ⟨n, ht, hb, hn, T, Od, hr⟩
  · exact Or.inl h
  · obtain ⟨t1, t2, t3, t4, t5, t6⟩ := T
    obtain ⟨o1, o2, o3⟩ := Od
    dsimp only at t2 t3 t4 t5 t6 o1 o2 o3
    have k0 : ∀ p, Lv p → pg m' p 0 = pg m p 0 := fun p h => e p h 0 (by omega) (by omega) (by omega)
    have k1 : ∀ p, Lv p → pg m' p 1 = pg m p 1 := fun p h => e p h 1 (by omega) (by omega) (by omega)
    have kA : ∀ p, Lv p → ∀ k, 0 ≤ k → k < 6 → pg m' p (4 + k) = pg m p (4 + k) := fun p h k h1 h2 => e p h (4 + k) (by omega) (by omega) (by omega)
    have kB : ∀ p, Lv p → ∀ k, 0 ≤ k → k < 6 → pg m' p (10 + k) = pg m p (10 + k) := fun p h k h1 h2 => e p h (10 + k) (by omega) (by omega) (by omega)
    refine Or.inr ⟨n, ht, hb, hn, ⟨t1, fun p hp => ?_, fun p hp h0 => ?_, fun p hp h0 => ?_, fun p p' k k' a1 a2 a3 a4 a5 a6 a7 a8 ee => ?_, fun p hp => ?_⟩, ⟨fun p hp => ?_, fun p hp h0 => ?_, fun p hp h0 => ?_⟩, fun h => ?_⟩
    · dsimp only
      rw [k1 p hp]
      exact t2 p hp
    · dsimp only
      have R := t2 p hp
      rw [k0 p hp, k1 p hp]
      refine ⟨(t3 p hp h0).1, fun k h1 h2 => ?_⟩
      rw [kA p hp k h1 (by omega), kB p hp k h1 (by omega)]
      exact (t3 p hp h0).2 k h1 h2
    · dsimp only
      have R := t2 p hp
      rw [k0 p hp, k1 p hp]
      refine ⟨(t4 p hp h0).1, fun k h1 h2 => ?_⟩
      have x := (t4 p hp h0).2 k h1 h2
      rw [kA p hp k h1 (by omega), kB p hp k h1 (by omega), kA _ x.1 0 (by omega) (by omega)]
      exact x
    · dsimp only at a6 a8 ee
      have R := t2 p a1
      have R' := t2 p' a2
      rw [k1 p a1] at a6
      rw [k1 p' a2] at a8
      rw [kB p a1 k a5 (by omega), kB p' a2 k' a7 (by omega)] at ee
      exact t5 p p' k k' a1 a2 a3 a4 a5 a6 a7 a8 ee
    · dsimp only
      rcases t6 p hp with e1 | ⟨p', k, a1, a2, a3, a4, a5⟩
      · exact Or.inl e1
      · have R := t2 p' a1
        exact Or.inr ⟨p', k, a1, a2, a3, by rw [k1 p' a1]; exact a4, by rw [kB p' a1 k a3 (by omega)]; exact a5⟩
    · dsimp only
      rw [kA p hp 0 (by omega) (by omega)]
      exact o1 p hp
    · dsimp only
      have R := t2 p hp
      rw [k1 p hp, kA p hp (pg m p 1 - 1) (by omega) (by omega)]
      refine ⟨fun k h1 h2 => ?_, (o2 p hp h0).2⟩
      rw [kA p hp k h1 (by omega), kA p hp (k + 1) (by omega) (by omega)]
      exact (o2 p hp h0).1 k h1 h2
    · dsimp only
      have R := t2 p hp
      rw [k1 p hp, kB p hp (pg m p 1 - 1) (by omega) (by omega)]
      refine ⟨fun k h1 h2 => ?_, (o3 p hp h0).2⟩
      rw [kB p hp k h1 (by omega), kA p hp (k + 1) (by omega) (by omega)]
      exact (o3 p hp h0).1 k h1 h2
    · rw [k0 r t1.1] at h
      rw [k1 r t1.1]
      exact hr h
theorem Chn_ext : ∀ (sl : List Int) (x : Int), Chn m sl x → (∀ y, y ∈ sl → pg m' y 0 = pg m y 0 ∧ pg m' y 3 = pg m y 3) → Chn m' sl x
  | [], x, h, _ => h
  | y :: r, x, h, e => by
    obtain ⟨h1, h2, h3, h4, h5⟩ := h
    have ey := e y (List.mem_cons_self ..)
    refine ⟨h1, h2, h3, by rw [ey.1]; exact h4, ?_⟩
    rw [ey.2]
    exact Chn_ext r _ h5 (fun a ha => e a (List.mem_cons_of_mem _ ha))
theorem Lst_ext {sl : List Int} {p n : Int} (hr : ∀ y, y ∈ sl → pg m y 1 ≤ 6) (e : ∀ y, y ∈ sl → ∀ w, 0 ≤ w → w < 16 → w ≠ 2 → pg m' y w = pg m y w) : Lst m' sl p n ↔ Lst m sl p n := by
  constructor
  · rintro ⟨y, hy, k, k0, k1, e1, e2⟩
    rw [e y hy 1 (by omega) (by omega) (by omega)] at k1
    have := hr y hy
    rw [e y hy (4 + k) (by omega) (by omega) (by omega)] at e1
    rw [e y hy (10 + k) (by omega) (by omega) (by omega)] at e2
    exact ⟨y, hy, k, k0, k1, e1, e2⟩
  · rintro ⟨y, hy, k, k0, k1, e1, e2⟩
    have := hr y hy
    refine ⟨y, hy, k, k0, ?_, ?_, ?_⟩
    · rw [e y hy 1 (by omega) (by omega) (by omega)]
      exact k1
    · rw [e y hy (4 + k) (by omega) (by omega) (by omega)]
      exact e1
    · rw [e y hy (10 + k) (by omega) (by omega) (by omega)]
      exact e2
theorem pg_ext (h : ∀ z, 0 ≤ z → z < 1049 → m' z = m z) {p w : Int} (p0 : 0 ≤ p) (p1 : p < 48) (w0 : 0 ≤ w) (w1 : w < 16) : pg m' p w = pg m p w := h _ (by omega) (by omega)
theorem hd_ext (h : ∀ z, 0 ≤ z → z < 1049 → m' z = m z) : hd m' = hd m := by
  unfold hd
  rw [h 281 (by omega) (by omega), h 297 (by omega) (by omega), h 285 (by omega) (by omega), h 301 (by omega) (by omega)]
theorem hc_ext (h : ∀ z, 0 ≤ z → z < 1049 → m' z = m z) {w : Int} (w0 : 0 ≤ w) (w1 : w < 12) : hc m' w = hc m w := by
  have := hd_01 m
  unfold hc
  rw [hd_ext h, pg_ext h (by omega) (by omega) (by omega) (by omega)]
theorem ListD_ext {sl : List Int} (h : ∀ z, 0 ≤ z → z < 1049 → m' z = m z) (hr : ∀ y, y ∈ sl → 2 ≤ y ∧ y < 48 ∧ pg m y 1 ≤ 6) (L : ListD m sl) : ListD m' sl := by
  obtain ⟨c1, c2, c3, c4, c5⟩ := L
  have e : ∀ y, y ∈ sl → ∀ w, 0 ≤ w → w < 16 → w ≠ 2 → pg m' y w = pg m y w := fun y hy w w0 w1 _ => by
    have := hr y hy
    exact pg_ext h (by omega) (by omega) w0 w1
  have le : ∀ p n, Lst m' sl p n ↔ Lst m sl p n := fun p n => Lst_ext (fun y hy => (hr y hy).2.2) e
  refine ⟨?_, c2, ?_, ?_, ?_⟩
  · rw [hc_ext h (by omega) (by omega)]
    exact Chn_ext sl _ c1 (fun y hy => ⟨e y hy 0 (by omega) (by omega) (by omega), e y hy 3 (by omega) (by omega) (by omega)⟩)
  · rw [hc_ext h (by omega) (by omega)]
    exact c3
  · rw [hc_ext h (by omega) (by omega), hc_ext h (by omega) (by omega)]
    exact fun p n x => c4 p n ((le p n).mp x)
  · intro y y' k k' hy hy' k0 k1 l0 l1 ee
    have r1 := hr y hy
    have r2 := hr y' hy'
    rw [e y hy 1 (by omega) (by omega) (by omega)] at k1
    rw [e y' hy' 1 (by omega) (by omega) (by omega)] at l1
    rw [e y hy (4 + k) (by omega) (by omega) (by omega), e y' hy' (4 + k') (by omega) (by omega) (by omega)] at ee
    exact c5 y y' k k' hy hy' k0 k1 l0 l1 ee
theorem Inv_ext (h : ∀ z, 0 ≤ z → z < 1049 → m' z = m z) (I : Inv m b) : Inv m' b := by
  obtain ⟨⟨⟨a1, a2, a3, a4, a5⟩, P, Q, ⟨h0, h1, h2, h48⟩, Lv, sl, T, Ld, Dj, Rd⟩, ⟨c1, c2, c3⟩, S, Rr⟩ := I
  have hd1 := hd_01 m
  have hm := Chn_mem sl _ Ld.1
  have hr : ∀ y, y ∈ sl → 2 ≤ y ∧ y < 48 ∧ pg m y 1 ≤ 6 := fun y hy => by
    have := hm y hy
    have := P y this.1 this.2.1
    omega
  have le : ∀ p n, Lst m' sl p n ↔ Lst m sl p n := fun p n => Lst_ext (fun y hy => (hr y hy).2.2) (fun y hy w w0 w1 _ => by
    have := hr y hy
    exact pg_ext h (by omega) (by omega) w0 w1)
  have te : ∀ {Lv : Int → Prop} {r : Int}, TreeD m (hc m 3) Lv r → TreeD m' (hc m 3) Lv r := fun T => TreeD_ext T (fun p hp w w0 w1 _ => by
    rcases T with ⟨_, hh⟩ | ⟨n, ht, hb, hn, T, _⟩
    · exact absurd hp (hh p)
    · have := T.2.1 p hp
      exact pg_ext h (by omega) (by omega) w0 w1)
  refine ⟨⟨⟨?_, ?_, ?_, ?_, ?_⟩, fun p p0 p1 => ?_, fun p p0 p1 => ?_, ?_, Lv, sl, ?_, ListD_ext h hr Ld, ?_, ?_⟩, ⟨?_, ?_, ?_⟩, ?_, ?_⟩
  · rw [pg_ext h (by omega) (by omega) (by omega) (by omega)]
    exact a1
  · rw [pg_ext h (by omega) (by omega) (by omega) (by omega)]
    exact a2
  · rw [hd_ext h, pg_ext h (by omega) (by omega) (by omega) (by omega)]
    exact a3
  · rw [pg_ext h (by omega) (by omega) (by omega) (by omega)]
    exact a4
  · rw [pg_ext h (by omega) (by omega) (by omega) (by omega)]
    exact a5
  · rw [pg_ext h (w := 0) (by omega) (by omega) (by omega) (by omega), pg_ext h (w := 1) (by omega) (by omega) (by omega) (by omega)]
    exact P p p0 p1
  · rw [pg_ext h (w := 0) (by omega) (by omega) (by omega) (by omega), pg_ext h (w := 2) (by omega) (by omega) (by omega) (by omega), pg_ext h (w := 3) (by omega) (by omega) (by omega) (by omega)]
    exact Q p p0 p1
  · rw [hc_ext h (by omega) (by omega), hc_ext h (by omega) (by omega)]
    exact ⟨h0, h1, h2, h48⟩
  · rw [hc_ext h (by omega) (by omega), hc_ext h (by omega) (by omega)]
    exact te T
  · exact fun p hp => ⟨(Dj p hp).1, fun n x => (Dj p hp).2 n ((le p n).mp x)⟩
  · intro r r0 r1 hv
    rw [h _ (by omega) (by omega)] at hv
    rw [h _ (by omega) (by omega), h (10 + 2 * r) (by omega) (by omega), hc_ext h (by omega) (by omega), hc_ext h (by omega) (by omega)]
    obtain ⟨b1, b2, Lr, Tr, Mr⟩ := Rd r r0 r1 hv
    exact ⟨b1, b2, Lr, te Tr, fun p hp => (Mr p hp).imp id (fun ⟨n, n1, n2⟩ => ⟨n, n1, (le p n).mpr n2⟩)⟩
  · rw [h 8 (by omega) (by omega)]
    exact c1
  · rw [h 8 (by omega) (by omega)]
    exact c2
  · intro k k0 k1
    rw [h 8 (by omega) (by omega)] at k1
    rw [h _ (by omega) (by omega), h (18 + 2 * k) (by omega) (by omega)]
    exact c3 k k0 k1
  · rw [h 0 (by omega) (by omega), h 3 (by omega) (by omega), h 4 (by omega) (by omega), h 5 (by omega) (by omega), h 6 (by omega) (by omega)]
    exact S
  · intro r r0 r1
    rw [h _ (by omega) (by omega)]
    exact Rr r r0 r1
theorem Inv_mono {b' : Int} (I : Inv m b) (h : b ≤ b') : Inv m b' := by
  obtain ⟨⟨a1, a2, a3, ⟨h0, h1, h2⟩, a4⟩, a5⟩ := I
  exact ⟨⟨a1, a2, a3, ⟨h0, by omega, h2⟩, a4⟩, a5⟩
/-- two states tell the same, where their cells are the same -/
theorem RB_cp {s t : Nat → Int → Int32} {q q' : Nat} (I : Inv m b) (h : ∀ z, 0 ≤ z → z < 1049 → m' z = m z) (H : RB m s q') (e : ∀ z, 0 ≤ z → z < 48 → q_g t (q + 2) z = q_g s (q' + 2) z ∧ q_g t (q + 3) z = q_g s (q' + 3) z ∧ q_g t (q + 4) z = q_g s (q' + 4) z ∧ q_g t (q + 5) z = q_g s (q' + 5) z) (e6 : ∀ z, 0 ≤ z → z < 288 → q_g t (q + 6) z = q_g s (q' + 6) z ∧ q_g t (q + 7) z = q_g s (q' + 7) z) (e8 : ∀ z, 0 ≤ z → z < 8 → q_g t (q + 8) z = q_g s (q' + 8) z) (e9 : ∀ z, 0 ≤ z → z < 4 → q_g t (q + 9) z = q_g s (q' + 9) z ∧ q_g t (q + 10) z = q_g s (q' + 10) z) (e11 : ∀ z, 0 ≤ z → z < 12 → q_g t (q + 11) z = q_g s (q' + 11) z ∧ q_g t (q + 12) z = q_g s (q' + 12) z) (e13 : ∀ z, 0 ≤ z → z < 240 → q_g t (q + 13) z = q_g s (q' + 13) z) (ef : ∀ z, z = 5 ∨ z = 6 ∨ z = 7 ∨ z = 8 ∨ z = 9 ∨ z = 10 ∨ z = 12 ∨ z = 13 → q_g t q z = q_g s q' z) : RB m' t q := by
  have P := @inv_page b m I
  obtain ⟨_, ⟨c1, c2, _⟩, S, _⟩ := I
  obtain ⟨r1, r2, r3, r4, r5, r6, r7⟩ := H
  refine ⟨fun p p0 p1 => ?_, fun p p0 p1 hp w w0 w1 => ?_, fun r r0 r1' => ?_, ⟨?_, fun k k0 k1 => ?_⟩, ?_, ?_, fun a w a0 a1 w0 w1 => ?_⟩
  · obtain ⟨x1, x2, x3, x4, x5⟩ := r1 p p0 p1
    obtain ⟨y1, y2, y3, y4⟩ := e p p0 p1
    have pr := P p0 p1
    rw [pg_ext h (w := 0) (by omega) (by omega) (by omega) (by omega), pg_ext h (w := 1) (by omega) (by omega) (by omega) (by omega), pg_ext h (w := 2) (by omega) (by omega) (by omega) (by omega), pg_ext h (w := 3) (by omega) (by omega) (by omega) (by omega), y1, y2, y3, y4]
    refine ⟨x1, x2, x3, x4, fun k k0 k1 => ?_⟩
    rw [pg_ext h (by omega) (by omega) (by omega) (by omega), pg_ext h (w := 10 + k) (by omega) (by omega) (by omega) (by omega), (e6 _ (by omega) (by omega)).1, (e6 _ (by omega) (by omega)).2]
    exact x5 k k0 k1
  · rw [pg_ext h (by omega) (by omega) (by omega) (by omega)] at hp ⊢
    rw [e8 _ (by omega) (by omega)]
    exact r2 p p0 p1 hp w w0 w1
  · rw [h _ (by omega) (by omega), h (10 + 2 * r) (by omega) (by omega), (e9 r r0 r1').1, (e9 r r0 r1').2]
    exact r3 r r0 r1'
  · rw [h _ (by omega) (by omega), ef 5 (by omega)]
    exact r4.1
  · rw [h 8 (by omega) (by omega)] at k1
    rw [h _ (by omega) (by omega), h (18 + 2 * k) (by omega) (by omega), (e11 k k0 (by omega)).1, (e11 k k0 (by omega)).2]
    exact r4.2 k k0 k1
  · rw [h 3 (by omega) (by omega), h 4 (by omega) (by omega), h 5 (by omega) (by omega), h 7 (by omega) (by omega), h 0 (by omega) (by omega), h 6 (by omega) (by omega), ef 6 (by omega), ef 7 (by omega), ef 8 (by omega), ef 9 (by omega), ef 10 (by omega), ef 12 (by omega)]
    exact r5
  · rw [ef 13 (by omega)]
    exact r6
  · rw [h 6 (by omega) (by omega)] at a1
    have := Int.emod_nonneg (q_g s q' 13 - 1 - a) (show (60 : Int) ≠ 0 by omega)
    have := Int.emod_lt_of_pos (q_g s q' 13 - 1 - a) (show (0 : Int) < 60 by omega)
    rw [h _ (by omega) (by omega), ef 13 (by omega), e13 _ (by omega) (by omega)]
    exact r7 a w a0 a1 w0 w1
end EX
