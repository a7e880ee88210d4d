/-! WHAT HOLDS behind a commit -/
noncomputable def slL (m : Int → Int) (kN : Int) : Nat → Int → List Int
  | 0, _ => []
  | f + 1, j => tp m (kN + j) :: slL m kN f (j + 1)
section NDK
variable {m x pl : Int → Int} {b kN sc : Int} {Lf Lv : Int → Prop} {T : Option Tr}
theorem slL_mem : ∀ (f : Nat) (j : Int) {y : Int}, y ∈ slL m kN f j ↔ ∃ i, j ≤ i ∧ i < j + f ∧ y = tp m (kN + i)
  | 0, j, y => ⟨fun h => by simp [slL] at h, fun ⟨i, i0, i1, _⟩ => by omega⟩
  | f + 1, j, y => by
    unfold slL
    rw [List.mem_cons, slL_mem f (j + 1)]
    constructor
    · rintro (e | ⟨i, i0, i1, e⟩)
      · exact ⟨j, by omega, by omega, e⟩
      · exact ⟨i, by omega, by omega, e⟩
    · rintro ⟨i, i0, i1, e⟩
      by_cases c : i = j
      · rw [c] at e
        exact Or.inl e
      · exact Or.inr ⟨i, by omega, by omega, e⟩
theorem slL_nd (Tk : TkI m) (k0 : 0 ≤ kN) : ∀ (f : Nat) (j : Int), 0 ≤ j → kN + j + f ≤ cap m → (slL m kN f j).Nodup
  | 0, j, _, _ => List.nodup_nil
  | f + 1, j, j0, jc => by
    unfold slL
    rw [List.nodup_cons]
    refine ⟨fun h => ?_, slL_nd Tk k0 f (j + 1) (by omega) (by omega)⟩
    obtain ⟨i, i0, i1, e⟩ := (slL_mem f (j + 1)).mp h
    have := tp_inj' Tk (by omega) (by omega) (by omega) (by omega) e
    omega
theorem slL_chn (Tk : TkI m) (k0 : 0 ≤ kN) (kc : kN + sc ≤ cap m) (hk : ∀ i, 0 ≤ i → i < sc → pg x (tp m (kN + i)) 0 = 3 ∧ pg x (tp m (kN + i)) 3 = (if i + 1 < sc then tp m (kN + (i + 1)) else -1)) : ∀ (f : Nat) (j : Int), 0 ≤ j → sc - j = f → Chn x (slL m kN f j) (if j < sc then tp m (kN + j) else -1)
  | 0, j, j0, hj => by
    rw [if_neg (by omega)]
    rfl
  | f + 1, j, j0, hj => by
    rw [if_pos (by omega)]
    obtain ⟨a1, a2⟩ := hk j j0 (by omega)
    have tr := tp_rg Tk (show 0 ≤ kN + j by omega) (by omega)
    refine ⟨rfl, tr.1, tr.2, a1, ?_⟩
    rw [a2]
    exact slL_chn Tk k0 kc hk f (j + 1) (by omega) (by omega)
/-- the row when all is written -/
noncomputable def Dn (m : Int → Int) (T : Option Tr) (sc : Int) (pl x : Int → Int) : Prop :=
  (∀ p, 0 ≤ p → p < 48 → ¬ TK m (cNo T + sc) p → p ≠ 1 - hd m → ∀ w, 0 ≤ w → w < 16 → pg x p w = pg m p w) ∧ (∀ p, TK m (cNo T + sc) p ∨ p = 1 - hd m → (∀ w, 0 ≤ w → w < 16 → w ≠ 2 → pg x p w = pl (16 * p + w)) ∧ 0 ≤ pg x p 2 ∧ pg x p 2 ≤ 9999)
theorem pl_good (Tk : TkI m) (PT : PTo T) (pI : PlI m T Lf sc pl) (s0 : 0 ≤ sc) (kc : cNo T + sc ≤ cap m) {p : Int} (h : TK m (cNo T + sc) p) : (pl (16 * p) = 1 ∨ pl (16 * p) = 2 ∨ pl (16 * p) = 3) ∧ 0 ≤ pl (16 * p + 1) ∧ pl (16 * p + 1) ≤ 6 ∧ (pl (16 * p) = 1 ∨ pl (16 * p) = 2 → 1 ≤ pl (16 * p + 1) ∧ pl (16 * p + 1) ≤ 4) ∧ (pl (16 * p) ≠ 3 → pl (16 * p + 3) = -1) := by
  have k0 : 0 ≤ cNo T := by
    cases T with
    | none => exact Int.le_refl _
    | some t => exact cN_0 t
  obtain ⟨i, i0, i1, e⟩ := (TK_ex Tk kc (by omega)).mp h
  rw [e]
  by_cases ik : i < cNo T
  · cases T with
    | none =>
      have e : cNo none = 0 := rfl
      omega
    | some t =>
      obtain ⟨h, h12, o, hz⟩ := PT
      have e : cNo (some t) = cN t := rfl
      obtain ⟨a1, a2, a3, a4⟩ := PlN_good o (pI.1 t rfl) i i0 (by omega)
      exact ⟨by omega, by omega, by omega, fun _ => ⟨a2, a3⟩, fun _ => a4⟩
  · obtain ⟨p1, p2, p3, p4⟩ := pI.2.1 (i - cNo T) (by omega) (by omega)
    rw [show cNo T + (i - cNo T) = i by omega] at p1 p2
    have rr : 0 ≤ rws (cnP (Rw m Lf (cNo T + sc)) 48) (i - cNo T) 6 ∧ rws (cnP (Rw m Lf (cNo T + sc)) 48) (i - cNo T) 6 ≤ 6 := by
      unfold rws
      repeat' split
      all_goals omega
    exact ⟨by omega, by omega, by omega, fun h => by omega, fun h => absurd p1 h⟩
theorem DiskI_new (I : Inv m b) (hb : b < 2147483646) (D : Dsk m Lv) (PT : PTo T) (LP : LfP Lv T Lf) (OL : OldO (dk m) T) (DP : DPo T) (Sc : ScI m (frN m Lf) (cNo T) sc) (kc : cNo T + sc ≤ cap m) (pI : PlI m T Lf sc pl) (hx : Dn m T sc pl x) (hrd : ∀ r, 0 ≤ r → r < 4 → x (9 + 2 * r) ≠ -1 → x (9 + 2 * r) = m (9 + 2 * r) ∧ x (10 + 2 * r) = m (10 + 2 * r)) : DiskI x (b + 1) := by
  have hh := hd_01 m
  have Tk := inv_tk I (by omega)
  have Hl := inv_ls I (by omega)
  have Si := inv_si I (by omega)
  have hL := lf_i I (by omega) D (Lf := Lf) (fun p hp => (LP p).1.mpr (Or.inr hp))
  obtain ⟨⟨a1, a2, a3, a4, a5⟩, aP, aW, ⟨n0, n1, n2, n3⟩, -⟩ := I.1
  have s0 := Sc.1
  have s8 := Sc.2.1
  have k0 : 0 ≤ cNo T := by
    cases T with
    | none => exact Int.le_refl _
    | some t => exact cN_0 t
  have K0 : 0 ≤ cNo T + sc := by omega
  have hg := hgh_rg Tk K0 kc
  have tkr : ∀ p, TK m (cNo T + sc) p → 2 ≤ p ∧ p < 48 ∧ p < hgh m (cNo T + sc) := fun p h => TK_rg Tk kc K0 h
  have tpT : ∀ i, 0 ≤ i → i < cNo T + sc → TK m (cNo T + sc) (tp m i) := fun i i0 i1 => (TK_ex Tk kc K0).mpr ⟨i, i0, i1, rfl⟩
  have tkL : ∀ p, TK m (cNo T + sc) p → ¬ Lv p := fun p h => (TK_free I hb D K0 kc h).1
  obtain ⟨x1, x2⟩ := hx
  obtain ⟨h1, h2, h3, h4, h5, h6, h7⟩ := pI.2.2
  have xt := (x2 (1 - hd m) (Or.inr rfl)).1
  have t0 := xt 0 (by omega) (by omega) (by omega)
  rw [Int.add_zero, h1] at t0
  have t1 := (xt 1 (by omega) (by omega) (by omega)).trans h2
  have t4 := (xt 4 (by omega) (by omega) (by omega)).trans h4
  have t5 := (xt 5 (by omega) (by omega) (by omega)).trans h5
  have t6 := (xt 6 (by omega) (by omega) (by omega)).trans h6
  have t7 := (xt 7 (by omega) (by omega) (by omega)).trans h7
  have xh : ∀ w, 0 ≤ w → w < 16 → pg x (hd m) w = pg m (hd m) w := x1 (hd m) (by omega) (by omega) (fun h => by have := tkr _ h; omega) (by omega)
  have e4 : pg x (hd m) 4 = hc m 0 := xh 4 (by omega) (by omega)
  have e0 : pg x (hd m) 0 = 4 := by rw [xh 0 (by omega) (by omega)]; exact a3
  have ehd : hd x = 1 - hd m := by
    rcases (show hd m = 0 ∨ hd m = 1 by omega) with e | e
    · rw [e] at t0 t4 e4 e0 ⊢
      have b1 : x 281 = 4 := e0
      have b2 : x 297 = 4 := t0
      have b3 : x 285 = hc m 0 := e4
      have b4 : x 301 = hc m 0 + 1 := t4
      unfold hd
      rw [if_neg (by omega), if_pos (by omega)]
      rfl
    · rw [e] at t0 t4 e4 e0 ⊢
      have b1 : x 281 = 4 := t0
      have b2 : x 297 = 4 := e0
      have b3 : x 285 = hc m 0 + 1 := t4
      have b4 : x 301 = hc m 0 := e4
      unfold hd
      rw [if_neg (by omega), if_neg (by omega)]
      rfl
  have c0 : hc x 0 = hc m 0 + 1 := by
    show pg x (hd x) (4 + 0) = _
    rw [ehd]
    exact t4
  have c1 : hc x 1 = rtp m T := by
    show pg x (hd x) (4 + 1) = _
    rw [ehd]
    exact t5
  have c2 : hc x 2 = if sc = 0 then -1 else tp m (cNo T) := by
    show pg x (hd x) (4 + 2) = _
    rw [ehd]
    exact t6
  have c3 : hc x 3 = hgh m (cNo T + sc) := by
    show pg x (hd x) (4 + 3) = _
    rw [ehd]
    exact t7
  have r6 : ∀ z, 0 ≤ z → z < 48 → pg m z 1 ≤ 6 := fun z z0 z1 => by
    by_cases e : z < 2
    · rcases (show z = 0 ∨ z = 1 by omega) with e | e
      · rw [e]
        omega
      · rw [e]
        omega
    · exact (aP z (by omega) z1).2.2.1
  -- the tree
  have hxW : ∀ p, 0 ≤ p → p < 48 → ¬ (TK m (cNo T + sc) p ∨ p = 1 - hd m) → ∀ w, 0 ≤ w → w < 16 → pg x p w = pg m p w := fun p p0 p1 hn => x1 p p0 p1 (fun h => hn (Or.inl h)) (fun h => hn (Or.inr h))
  have pgW : ∀ z, PGo T z → Lv z ∧ ¬ (TK m (cNo T + sc) z ∨ z = 1 - hd m) := fun z hz => by
    have lv := (LP z).1.mpr (Or.inl hz)
    refine ⟨lv, ?_⟩
    rintro (h | h)
    · exact tkL z h lv
    · have := (D.1 z lv).1
      omega
  have tree : ∃ L' : Int → Prop, TreeD x (hgh m (cNo T + sc)) L' (rtp m T) ∧ ∀ y, L' y ↔ PGo T y ∨ ∃ i, 0 ≤ i ∧ i < cNo T ∧ y = tp m i := by
    cases T with
    | none => exact ⟨fun _ => False, Or.inl ⟨rfl, fun _ h => h⟩, fun y => ⟨fun h => h.elim, fun h => h.elim (fun h => h.elim) (fun ⟨i, i0, i1, _⟩ => by have e : cNo none = 0 := rfl; omega)⟩⟩
    | some t =>
      obtain ⟨h, h12, o, hz⟩ := PT
      have e : cNo (some t) = cN t := rfl
      obtain ⟨b1, b2, b3⟩ := new_x (tq := tp m) (pl := pl) (m := m) (x := x) (Wst := fun p => TK m (cNo (some t) + sc) p ∨ p = 1 - hd m) hxW r6 (e := cNo (some t) + sc) (fun i j i0 i1 j0 j1 q => tp_inj' Tk i0 (by omega) j0 (by omega) q) (fun i i0 i1 => ⟨Or.inl (tpT i i0 i1), (x2 (tp m i) (Or.inl (tpT i i0 i1))).1⟩) (k := 0) o OL DP (fun z hz => (pgW z hz).2) (pI.1 t rfl) (by omega) (by omega)
      rw [Int.zero_add] at b2
      refine ⟨_, TreeD_of ⟨b1, b3, fun y hy => ?_⟩ (plT_ok 0 o) h12 (by rw [(plT_sz t 0).1]; exact hz), fun y => b2 y⟩
      rcases (b2 y).mp hy with g | ⟨i, i0, i1, g⟩
      · have := D.1 y (pgW y g).1
        omega
      · have := tkr _ (tpT i i0 (by omega))
        rw [g]
        omega
  obtain ⟨L', T1, T2⟩ := tree
  -- the list
  have slr : ∀ i, 0 ≤ i → i < sc → pg x (tp m (cNo T + i)) 0 = 3 ∧ pg x (tp m (cNo T + i)) 1 = rws (cnP (Rw m Lf (cNo T + sc)) 48) i 6 ∧ pg x (tp m (cNo T + i)) 3 = (if i + 1 < sc then tp m (cNo T + (i + 1)) else -1) ∧ ∀ k, 0 ≤ k → k < 6 → ∀ p, 0 ≤ p → p < 48 → Rw m Lf (cNo T + sc) p → cnP (Rw m Lf (cNo T + sc)) p = 6 * i + k → pg x (tp m (cNo T + i)) (4 + k) = p ∧ pg x (tp m (cNo T + i)) (10 + k) = frN m Lf p := fun i i0 i1 => by
    obtain ⟨p1, p2, p3, p4⟩ := pI.2.1 i i0 i1
    have xx := (x2 (tp m (cNo T + i)) (Or.inl (tpT _ (by omega) (by omega)))).1
    have x0 := xx 0 (by omega) (by omega) (by omega)
    rw [Int.add_zero] at x0
    refine ⟨x0.trans p1, (xx 1 (by omega) (by omega) (by omega)).trans p2, (xx 3 (by omega) (by omega) (by omega)).trans p3, fun k k0 k1 p q0 q1 hp hc => ?_⟩
    obtain ⟨d1, d2⟩ := p4 k k0 k1 p q0 q1 hp hc
    exact ⟨(xx (4 + k) (by omega) (by omega) (by omega)).trans d1, (xx (10 + k) (by omega) (by omega) (by omega)).trans d2⟩
  have rwr : ∀ i k, 0 ≤ i → 0 ≤ k → (k < rws (cnP (Rw m Lf (cNo T + sc)) 48) i 6 ↔ k < 6 ∧ 6 * i + k < cnP (Rw m Lf (cNo T + sc)) 48) := fun i k i0 k0 => by
    unfold rws
    repeat' split
    all_goals omega
  have cell : ∀ i k, 0 ≤ i → i < sc → 0 ≤ k → k < rws (cnP (Rw m Lf (cNo T + sc)) 48) i 6 → ∃ p, 0 ≤ p ∧ p < 48 ∧ Rw m Lf (cNo T + sc) p ∧ cnP (Rw m Lf (cNo T + sc)) p = 6 * i + k ∧ pg x (tp m (cNo T + i)) (4 + k) = p ∧ pg x (tp m (cNo T + i)) (10 + k) = frN m Lf p := fun i k i0 i1 k0 k1 => by
    obtain ⟨r1, r2⟩ := (rwr i k i0 k0).mp k1
    obtain ⟨p, b0, b1, b2, b3⟩ := cnP_ex48 (P := Rw m Lf (cNo T + sc)) (k := 6 * i + k) (by omega) r2
    obtain ⟨d1, d2⟩ := (slr i i0 i1).2.2.2 k k0 r1 p b0 b1 b2 b3
    exact ⟨p, b0, b1, b2, b3, d1, d2⟩
  have hH : ∀ p, hc m 3 ≤ p → p < 48 → frN m Lf p = -1 := fun p p0 p1 => Classical.byContradiction fun q => by
    have := frN_rg hL Si Hl n0 q
    omega
  have RC6 : cnP (Rw m Lf (cNo T + sc)) 48 ≤ 6 * sc := by
    have e := rw_cnt (k := cNo T + sc) Tk (FuI_N hL Si) hH K0
    have e' : cnP (Rw m Lf (cNo T + sc)) 48 = rwl m (frN m Lf) (cNo T + sc) := e
    rw [e']
    exact Sc.2.2.2
  have smem : ∀ {y : Int}, y ∈ slL m (cNo T) sc.toNat 0 ↔ ∃ i, 0 ≤ i ∧ i < sc ∧ y = tp m (cNo T + i) := fun {y} => by
    rw [slL_mem]
    constructor
    · rintro ⟨i, i0, i1, e⟩
      exact ⟨i, i0, by omega, e⟩
    · rintro ⟨i, i0, i1, e⟩
      exact ⟨i, i0, by omega, e⟩
  have lst : ∀ p n, Lst x (slL m (cNo T) sc.toNat 0) p n ↔ (0 ≤ p ∧ p < 48 ∧ Rw m Lf (cNo T + sc) p) ∧ n = frN m Lf p := fun p n => by
    constructor
    · rintro ⟨y, hy, k, k0, k1, e1, e2⟩
      obtain ⟨i, i0, i1, ey⟩ := smem.mp hy
      subst ey
      rw [(slr i i0 i1).2.1] at k1
      obtain ⟨p', b0, b1, b2, b3, b4, b5⟩ := cell i k i0 i1 k0 k1
      have : p = p' := e1.symm.trans b4
      subst this
      exact ⟨⟨b0, b1, b2⟩, e2.symm.trans b5⟩
    · rintro ⟨⟨b0, b1, b2⟩, e⟩
      have lt := cnP_lt b0 b2 b1
      have ge := (cnP_rg (P := Rw m Lf (cNo T + sc)) b0).1
      have i0 : 0 ≤ cnP (Rw m Lf (cNo T + sc)) p / 6 := by omega
      have i1 : cnP (Rw m Lf (cNo T + sc)) p / 6 < sc := by omega
      have k1 : cnP (Rw m Lf (cNo T + sc)) p % 6 < rws (cnP (Rw m Lf (cNo T + sc)) 48) (cnP (Rw m Lf (cNo T + sc)) p / 6) 6 := (rwr _ _ i0 (by omega)).mpr ⟨by omega, by omega⟩
      obtain ⟨d1, d2⟩ := (slr _ i0 i1).2.2.2 (cnP (Rw m Lf (cNo T + sc)) p % 6) (by omega) (by omega) p b0 b1 b2 (by omega)
      exact ⟨_, smem.mpr ⟨_, i0, i1, rfl⟩, cnP (Rw m Lf (cNo T + sc)) p % 6, by omega, by rw [(slr _ i0 i1).2.1]; exact k1, d1, by rw [e]; exact d2⟩
  have good : ∀ p, TK m (cNo T + sc) p → GoodR x p := fun p h => by
    obtain ⟨g1, g2, g3, g4, g5⟩ := pl_good Tk PT pI s0 kc h
    obtain ⟨y1, y2, y3⟩ := x2 p (Or.inl h)
    have y0 := y1 0 (by omega) (by omega) (by omega)
    rw [Int.add_zero] at y0
    have z1 := y1 1 (by omega) (by omega) (by omega)
    have z3 := y1 3 (by omega) (by omega) (by omega)
    unfold GoodR
    rw [y0, z1, z3]
    exact ⟨by omega, g2, g3, fun h => by omega, g4, y2, y3, g5⟩
  refine ⟨⟨?_, ?_, by rw [ehd]; exact t0, ?_, ?_⟩, fun p p2 p48 => ?_, fun p p0 p48 => ?_, ⟨by omega, by omega, by omega, by omega⟩, L', slL m (cNo T) sc.toNat 0, by rw [c3, c1]; exact T1, ⟨?_, ?_, fun y hy => ?_, fun p n hn => ?_, fun y y' k k' hy hy' k0' k1 k0'' k1' e => ?_⟩, fun p hp => ⟨fun hm => ?_, fun n hn => ?_⟩, fun r r0 r1 hr => ?_⟩
  · rcases (show hd m = 0 ∨ hd m = 1 by omega) with e | e
    · rw [e] at e0
      exact Or.inl e0
    · rw [e] at t0
      exact Or.inl t0
  · rcases (show hd m = 0 ∨ hd m = 1 by omega) with e | e
    · rw [e] at t0
      exact Or.inl t0
    · rw [e] at e0
      exact Or.inl e0
  · rcases (show hd m = 0 ∨ hd m = 1 by omega) with e | e
    · have := xh 1 (by omega) (by omega)
      rw [e] at this
      rw [this]
      exact a4
    · rw [e] at t1
      exact t1
  · rcases (show hd m = 0 ∨ hd m = 1 by omega) with e | e
    · rw [e] at t1
      exact t1
    · have := xh 1 (by omega) (by omega)
      rw [e] at this
      rw [this]
      exact a5
  · by_cases w : TK m (cNo T + sc) p
    · obtain ⟨g1, g2, g3, g4, g5, -⟩ := good p w
      exact ⟨by omega, g2, g3, fun h => g4 (by omega), g5⟩
    · rw [x1 p (by omega) p48 w (by omega) 0 (by omega) (by omega), x1 p (by omega) p48 w (by omega) 1 (by omega) (by omega)]
      exact aP p p2 p48
  · by_cases w : TK m (cNo T + sc) p
    · obtain ⟨g1, g2, g3, g4, g5, g6, g7, g8⟩ := good p w
      exact ⟨g6, g7, g8⟩
    · by_cases w' : p = 1 - hd m
      · rw [w']
        obtain ⟨y1, y2, y3⟩ := x2 (1 - hd m) (Or.inr rfl)
        exact ⟨y2, y3, fun _ => (y1 3 (by omega) (by omega) (by omega)).trans h3⟩
      · rw [x1 p p0 p48 w w' 2 (by omega) (by omega), x1 p p0 p48 w w' 0 (by omega) (by omega), x1 p p0 p48 w w' 3 (by omega) (by omega)]
        exact aW p p0 p48
  · rw [c2]
    have := slL_chn (x := x) (sc := sc) Tk k0 kc (fun i i0 i1 => ⟨(slr i i0 i1).1, (slr i i0 i1).2.2.1⟩) sc.toNat 0 (by omega) (by omega)
    rw [Int.add_zero] at this
    by_cases c : sc = 0
    · rw [if_neg (by omega)] at this
      rw [if_pos c]
      exact this
    · rw [if_pos (by omega)] at this
      rw [if_neg c]
      exact this
  · exact slL_nd Tk k0 sc.toNat 0 (by omega) (by omega)
  · obtain ⟨i, i0, i1, ey⟩ := smem.mp hy
    rw [ey, c3]
    exact (tkr _ (tpT _ (by omega) (by omega))).2.2
  · obtain ⟨⟨b0, b1, b2⟩, e⟩ := (lst p n).mp hn
    have fr := frN_rg hL Si Hl n0 b2.1
    rw [c3, c0, e]
    refine ⟨fr.1, by omega, fr.2.2.1, fr.2.2.2, fun hm => ?_⟩
    obtain ⟨i, i0, i1, ey⟩ := smem.mp hm
    exact b2.2 (by rw [ey]; exact tpT _ (by omega) (by omega))
  · obtain ⟨i, i0, i1, ey⟩ := smem.mp hy
    obtain ⟨i', i0', i1', ey'⟩ := smem.mp hy'
    subst ey
    subst ey'
    rw [(slr i i0 i1).2.1] at k1
    rw [(slr i' i0' i1').2.1] at k1'
    obtain ⟨p, b0, b1, b2, b3, b4, b5⟩ := cell i k i0 i1 k0' k1
    obtain ⟨p', b0', b1', b2', b3', b4', b5'⟩ := cell i' k' i0' i1' k0'' k1'
    have ep : p = p' := b4.symm.trans (e.trans b4')
    subst ep
    have w1 := ((rwr i k i0 k0').mp k1).1
    have w2 := ((rwr i' k' i0' k0'').mp k1').1
    have : i = i' := by omega
    subst this
    exact ⟨rfl, by omega⟩
  · obtain ⟨i, i0, i1, ey⟩ := smem.mp hm
    rcases (T2 p).mp hp with g | ⟨j, j0, j1, g⟩
    · exact (pgW p g).2 (Or.inl (by rw [ey]; exact tpT _ (by omega) (by omega)))
    · have := tp_inj' Tk (by omega) (by omega) (by omega) (by omega) (g.symm.trans ey)
      omega
  · obtain ⟨⟨b0, b1, b2⟩, e⟩ := (lst p n).mp hn
    rcases (T2 p).mp hp with g | ⟨j, j0, j1, g⟩
    · have lv := (pgW p g).1
      obtain ⟨d1, d2, d3, d4⟩ := D.1 p lv
      refine b2.1 ?_
      rw [frN_n (fun q => q.elim (fun q => (LP p).2 g q) d3)]
      rcases fr_cases Hl p with ⟨q, -⟩ | ⟨n', q1, -⟩
      · exact q
      · exact absurd q1 (d4 n')
    · exact b2.2 (by rw [g]; exact tpT _ j0 (by omega))
  · obtain ⟨e1, e2⟩ := hrd r r0 r1 hr
    rw [e1] at hr
    obtain ⟨b1, b2, Lr, b3, b4⟩ := D.2 r r0 r1 hr
    rw [e1, e2, c0, c3]
    refine ⟨b1, by omega, Lr, ?_, fun p hp => ?_⟩
    · refine TreeD_le (TreeD_ext b3 (fun p hp w w0 w1 _ => ?_)) hg.2.2
      have pr : 2 ≤ p ∧ p < 48 := by
        rcases b3 with ⟨-, h⟩ | ⟨n, ht, hb', hn', T', Od, h2⟩
        · exact absurd hp (h p)
        · have := T'.2.1 p hp
          omega
      exact x1 p (by omega) (by omega) (fun h => (TK_free I hb D K0 kc h).2.2 r r0 r1 hr Lr b3 b4 hp) (by omega) w w0 w1
    · rcases b4 p hp with lv | ⟨n, g1, g2⟩
      · rcases (LP p).1.mp lv with g | g
        · exact Or.inl ((T2 p).mpr (Or.inl g))
        · have pr := D.1 p lv
          have fn : frN m Lf p = hc m 0 + 1 := frN_y (Or.inl g)
          exact Or.inr ⟨hc m 0 + 1, by omega, (lst p _).mpr ⟨⟨by omega, by omega, by omega, fun h => tkL p h lv⟩, fn.symm⟩⟩
      · rcases fr_cases Hl p with ⟨q, hq⟩ | ⟨n', q1, q2, q3, q4, q5, q6, q7, q8⟩
        · exact absurd g2 (hq n)
        · have en := Lst_fun Hl g2 q1
          have fn : frN m Lf p = n := by
            rw [frN_n (fun q => q.elim (fun q => by have := (hL p q).2.2.1; omega) q7)]
            show (FRm m p).toInt = n
            omega
          refine Or.inr ⟨n, g1, (lst p n).mpr ⟨⟨by omega, by omega, by omega, ?_⟩, fn.symm⟩⟩
          rintro (⟨u, -⟩ | ⟨u1, u2⟩)
          · have := ((LM_iff m n').mp (by rw [← q2]; exact u.2)).2 r r0 r1 hr
            omega
          · omega
end NDK
