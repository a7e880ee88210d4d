/-! WRITES one by one, apart from who makes them -/
noncomputable def wq (m : Int → Int) (K k : Int) : Int := if k < K then Classical.epsilon (fun p => 0 ≤ p ∧ p < 48 ∧ TK m K p ∧ cnP (TK m K) p = k) else 1 - hd m
noncomputable def rsk (m pl : Int → Int) (q : Int) : Int := clp (m 3 + LTot m (fcs m pl q) 2 - LTot m (fcs m pl q) 3)
noncomputable def cst (m pl : Int → Int) (q : Int) : Int := 1 + LTot m (fcs m pl q) 4
noncomputable def sdr (dr : Bool) (y : Int → Int) : Int → Int := if dr then up y 7 (sdn (y 7)) else y
noncomputable def stp (m pl : Int → Int) (q : Int) (dr : Bool) (y : Int → Int) : Int → Int := wpg pl q (up (sdr dr y) 4 (mn 99999 (y 4 + cst m pl q)))
/-- whether power fails at a write -/
abbrev flz (dr : Bool) (pw k rs sd : Int) : Prop := if dr then q_rm (drw (sdn sd)) 100 < rs else pw ≤ k
noncomputable def prfm (m pl : Int → Int) (K : Int) (dr : Bool) (pw : Int) : Nat → Int → (Int → Int) → Int × (Int → Int)
  | 0, _, y => (0, lgr (hc m 0 + 1) 0 (K + 1) y)
  | f + 1, k, y => if flz dr pw k (rsk m pl (wq m K k)) (y 7) then (1, lgr (hc m 0 + 1) 1 k (lsp (trp (wq m K k) (sdr dr y)))) else prfm m pl K dr pw f (k + 1) (stp m pl (wq m K k) dr y)
/-- the row behind k writes -/
noncomputable def Mid (m : Int → Int) (K : Int) (pl : Int → Int) (k : Int) (y : Int → Int) : Prop :=
  (∀ z, z < 281 ∨ 1049 ≤ z → z ≠ 4 → z ≠ 7 → y z = m z) ∧ (∀ p, 0 ≤ p → p < 48 → (∀ i, 0 ≤ i → i < k → wq m K i ≠ p) → ∀ w, 0 ≤ w → w < 16 → pg y p w = pg m p w) ∧ (∀ i, 0 ≤ i → i < k → (∀ w, 0 ≤ w → w < 16 → w ≠ 2 → pg y (wq m K i) w = pl (16 * wq m K i + w)) ∧ 0 ≤ pg y (wq m K i) 2 ∧ pg y (wq m K i) 2 ≤ 9999) ∧ 0 ≤ y 4 ∧ y 4 ≤ 99999
section PUR
variable {m pl y : Int → Int} {b K k sc : Int} {T : Option Tr} {Lf : Int → Prop} {dr : Bool}
theorem wq_tk (Tk : TkI m) (K0 : 0 ≤ K) (Kc : K ≤ cap m) (k0 : 0 ≤ k) (k1 : k < K) : 0 ≤ wq m K k ∧ wq m K k < 48 ∧ TK m K (wq m K k) ∧ cnP (TK m K) (wq m K k) = k := by
  unfold wq
  rw [if_pos k1]
  obtain ⟨a1, -⟩ := TK_ct Tk K0 Kc
  exact Classical.epsilon_spec (p := fun p => 0 ≤ p ∧ p < 48 ∧ TK m K p ∧ cnP (TK m K) p = k) (cnP_ex48 k0 (by omega))
theorem wq_eq (Tk : TkI m) (K0 : 0 ≤ K) (Kc : K ≤ cap m) {p : Int} (p0 : 0 ≤ p) (p1 : p < 48) (h : TK m K p) : wq m K (cnP (TK m K) p) = p ∧ 0 ≤ cnP (TK m K) p ∧ cnP (TK m K) p < K := by
  obtain ⟨a1, -⟩ := TK_ct Tk K0 Kc
  have lt := cnP_lt p0 h p1
  have ge := (cnP_rg (P := TK m K) p0).1
  obtain ⟨b1, b2, b3, b4⟩ := wq_tk Tk K0 Kc ge (show cnP (TK m K) p < K by omega)
  exact ⟨cnP_inj b1 p0 b3 h b4, ge, by omega⟩
theorem wq_K : wq m K K = 1 - hd m := by
  unfold wq
  rw [if_neg (by omega)]
theorem wq_rg (Tk : TkI m) (K0 : 0 ≤ K) (Kc : K ≤ cap m) (k0 : 0 ≤ k) (k1 : k ≤ K) : 0 ≤ wq m K k ∧ wq m K k < 48 := by
  have hh := hd_01 m
  by_cases e : k = K
  · rw [e, wq_K]
    omega
  · have := wq_tk Tk K0 Kc k0 (by omega)
    omega
theorem wq_inj (Tk : TkI m) (K0 : 0 ≤ K) (Kc : K ≤ cap m) {i j : Int} (i0 : 0 ≤ i) (ij : i < j) (j1 : j ≤ K) : wq m K i ≠ wq m K j := by
  have hh := hd_01 m
  obtain ⟨b1, b2, b3, b4⟩ := wq_tk Tk K0 Kc i0 (show i < K by omega)
  intro e
  by_cases ej : j = K
  · rw [ej, wq_K] at e
    have := TK_rg Tk Kc K0 b3
    omega
  · obtain ⟨c1, c2, c3, c4⟩ := wq_tk Tk K0 Kc (show 0 ≤ j by omega) (by omega)
    rw [e] at b4
    omega
theorem Mid_0 (I : Inv m b) : Mid m K pl 0 m := ⟨fun _ _ _ _ => rfl, fun _ _ _ _ _ _ _ => rfl, fun i i0 i1 => by omega, I.2.2.1.2.2.2.2.1, I.2.2.1.2.2.2.2.2.1⟩
theorem sdr_n {z : Int} (h : z ≠ 7) : sdr dr y z = y z := by
  unfold sdr
  split
  · exact up_ne h
  · rfl
theorem sdr_pg {p w : Int} (p0 : 0 ≤ p) (w0 : 0 ≤ w) : pg (sdr dr y) p w = pg y p w := sdr_n (by omega)
theorem Mid_1 (Tk : TkI m) (I : Inv m b) (K0 : 0 ≤ K) (Kc : K ≤ cap m) (k0 : 0 ≤ k) (k1 : k ≤ K) (M : Mid m K pl k y) (hc : 0 ≤ cst m pl (wq m K k)) : Mid m K pl (k + 1) (stp m pl (wq m K k) dr y) := by
  obtain ⟨m1, m2, m3, m4, m5⟩ := M
  have qr := wq_rg Tk K0 Kc k0 k1
  have wear := I.1.2.2.1 (wq m K k) qr.1 qr.2
  have old : ∀ w, 0 ≤ w → w < 16 → pg y (wq m K k) w = pg m (wq m K k) w := m2 _ qr.1 qr.2 (fun i i0 i1 => wq_inj Tk K0 Kc i0 i1 k1)
  have inn : ∀ z, z ≠ 4 → z ≠ 7 → (up (sdr dr y) 4 (mn 99999 (y 4 + cst m pl (wq m K k)))) z = y z := fun z h4 h7 => by
    rw [up_ne h4, sdr_n h7]
  have innp : ∀ p w, 0 ≤ p → 0 ≤ w → pg (up (sdr dr y) 4 (mn 99999 (y 4 + cst m pl (wq m K k)))) p w = pg y p w := fun p w p0 w0 => inn _ (by omega) (by omega)
  refine ⟨fun z hz h4 h7 => ?_, fun p p0 p1 hn w w0 w1 => ?_, fun i i0 i1 => ?_, ?_, ?_⟩
  · unfold stp
    rw [wpg_n (by omega), inn z h4 h7]
    exact m1 z hz h4 h7
  · have ne : p ≠ wq m K k := fun e => hn k k0 (by omega) e.symm
    unfold stp
    rw [wpg_o ne w0 w1, innp p w p0 w0]
    exact m2 p p0 p1 (fun i i0 i1 => hn i i0 (by omega)) w w0 w1
  · by_cases e : i = k
    · rw [e]
      refine ⟨fun w w0 w1 w2 => ?_, ?_⟩
      · unfold stp
        exact wpg_at w0 w1 w2
      · unfold stp
        rw [wpg_2, innp _ _ qr.1 (by omega), old 2 (by omega) (by omega)]
        unfold mn
        split <;> omega
    · have ne := wq_inj Tk K0 Kc i0 (show i < k by omega) k1
      have ir := wq_rg Tk K0 Kc i0 (show i ≤ K by omega)
      obtain ⟨b1, b2, b3⟩ := m3 i i0 (by omega)
      unfold stp
      rw [wpg_o ne (by omega) (by omega), innp _ _ ir.1 (by omega)]
      refine ⟨fun w w0 w1 w2 => ?_, b2, b3⟩
      rw [wpg_o ne w0 w1, innp _ _ ir.1 w0]
      exact b1 w w0 w1 w2
  · unfold stp
    rw [wpg_n (by omega), up_eq rfl]
    unfold mn
    split <;> omega
  · unfold stp
    rw [wpg_n (by omega), up_eq rfl]
    unfold mn
    split <;> omega
theorem stp_7 (q0 : 0 ≤ (wq m K k)) : stp m pl (wq m K k) dr y 7 = if dr then sdn (y 7) else y 7 := by
  unfold stp
  rw [wpg_n (by omega), up_ne (by omega)]
  unfold sdr
  cases dr
  · rfl
  · show up y 7 (sdn (y 7)) 7 = sdn (y 7)
    exact up_eq rfl
/-- the law's say of a write depends on no write ahead of it -/
theorem LTot_ext {m m' F : Int → Int} {w : Int} (e : ∀ z, z = 1 ∨ z = 2 ∨ 1049 ≤ z → m' z = m z) : LTot m' F w = LTot m F w := by
  have e1 := e 1 (by omega)
  have e2 := e 2 (by omega)
  have eT : LT m' = LT m := by
    funext j
    unfold LT
    rw [e2]
    split
    · exact e (1049 + j) (by omega)
    · rfl
  unfold LTot
  rw [e1, e2, eT]
theorem Mid_hc (Tk : TkI m) (I : Inv m b) (K0 : 0 ≤ K) (Kc : K ≤ cap m) (k0 : 0 ≤ k) (k1 : k ≤ K) (M : Mid m K pl k y) : hd y = hd m ∧ ∀ w, 0 ≤ w → w < 12 → hc y w = hc m w := by
  have hh := hd_01 m
  have nw : ∀ p, 0 ≤ p → p < 2 → ∀ i, 0 ≤ i → i < k → wq m K i ≠ p := fun p p0 p1 i i0 i1 e => by
    obtain ⟨b1, b2, b3, b4⟩ := wq_tk Tk K0 Kc i0 (show i < K by omega)
    have := TK_rg Tk Kc K0 b3
    omega
  have pe : ∀ p w, 0 ≤ p → p < 2 → 0 ≤ w → w < 16 → pg y p w = pg m p w := fun p w p0 p1 w0 w1 => M.2.1 p p0 (by omega) (nw p p0 p1) w w0 w1
  have e1 : y 281 = m 281 := pe 0 0 (by omega) (by omega) (by omega) (by omega)
  have e2 : y 297 = m 297 := pe 1 0 (by omega) (by omega) (by omega) (by omega)
  have e3 : y 285 = m 285 := pe 0 4 (by omega) (by omega) (by omega) (by omega)
  have e4 : y 301 = m 301 := pe 1 4 (by omega) (by omega) (by omega) (by omega)
  have eh : hd y = hd m := by
    unfold hd
    rw [e1, e2, e3, e4]
  refine ⟨eh, fun w w0 w1 => ?_⟩
  show pg y (hd y) (4 + w) = pg m (hd m) (4 + w)
  rw [eh]
  exact pe _ _ (by omega) (by omega) (by omega) (by omega)
theorem Mid_fcs (Tk : TkI m) (I : Inv m b) (K0 : 0 ≤ K) (Kc : K ≤ cap m) (k0 : 0 ≤ k) (k1 : k ≤ K) (M : Mid m K pl k y) : fcs y pl (wq m K k) = fcs m pl (wq m K k) := by
  have qr := wq_rg Tk K0 Kc k0 k1
  have e2 : pg y (wq m K k) 2 = pg m (wq m K k) 2 := M.2.1 _ qr.1 qr.2 (fun i i0 i1 => wq_inj Tk K0 Kc i0 i1 k1) 2 (by omega) (by omega)
  have eh := (Mid_hc Tk I K0 Kc k0 k1 M).2 0 (by omega) (by omega)
  have e5 := M.1 5 (by omega) (by omega) (by omega)
  have eO : OM y = OM m := by
    unfold OM
    exact q_S_c (fun r r0 r1 => by rw [M.1 (9 + 2 * r) (by omega) (by omega) (by omega)])
  funext j
  unfold fcs
  rw [e2, eh, e5, eO]
/-- what holds, holds between two writes -/
theorem Mid_inv (I : Inv m b) (hb : b < 2147483646) (PT : PTo T) (pI : PlI m T Lf sc pl) (s0 : 0 ≤ sc) (kn : 0 ≤ cNo T) (Kc : cNo T + sc ≤ cap m) (k0 : 0 ≤ k) (k1 : k ≤ cNo T + sc) (M : Mid m (cNo T + sc) pl k y) : Inv y b := by
  have Tk := inv_tk I (by omega)
  have K0 : 0 ≤ cNo T + sc := by omega
  obtain ⟨m1, m2, m3, m4, m5⟩ := M
  have rc : ∀ r, 0 ≤ r → r < 4 → y (9 + 2 * r) = m (9 + 2 * r) ∧ y (10 + 2 * r) = m (10 + 2 * r) := fun r r0 r1 => ⟨m1 _ (by omega) (by omega) (by omega), m1 _ (by omega) (by omega) (by omega)⟩
  refine ⟨DiskI_w (Wst := fun p => ∃ i, 0 ≤ i ∧ i < k ∧ wq m (cNo T + sc) i = p) I hb K0 Kc (fun p p0 p1 hn => m2 p p0 p1 (fun i i0 i1 e => hn ⟨i, i0, i1, e⟩)) ?_ (fun r r0 r1 _ => rc r r0 r1), ?_, ?_, fun r r0 r1 => ?_⟩
  · rintro p ⟨i, i0, i1, e⟩
    obtain ⟨b1, b2, b3, b4⟩ := wq_tk Tk K0 Kc i0 (show i < cNo T + sc by omega)
    obtain ⟨g1, g2, g3, g4, g5⟩ := pl_good Tk PT pI s0 Kc b3
    obtain ⟨y1, y2, y3⟩ := m3 i i0 i1
    rw [e] at b3 g1 g2 g3 g4 g5 y1 y2 y3
    have y0 := y1 0 (by omega) (by omega) (by omega)
    rw [Int.add_zero] at y0
    refine Or.inl ⟨b3, ?_⟩
    unfold GoodR
    rw [y0, y1 1 (by omega) (by omega) (by omega), y1 3 (by omega) (by omega) (by omega)]
    exact ⟨by omega, g2, g3, fun h => by omega, g4, y2, y3, g5⟩
  · have h8 := I.2.1
    rw [m1 8 (by omega) (by omega) (by omega)]
    refine ⟨h8.1, h8.2.1, fun k k0 k1 => ?_⟩
    rw [m1 (17 + 2 * k) (by omega) (by omega) (by omega), m1 (18 + 2 * k) (by omega) (by omega) (by omega)]
    exact h8.2.2 k k0 k1
  · have hs := I.2.2.1
    rw [m1 0 (by omega) (by omega) (by omega), m1 3 (by omega) (by omega) (by omega), m1 5 (by omega) (by omega) (by omega), m1 6 (by omega) (by omega) (by omega)]
    exact ⟨hs.1, hs.2.1, hs.2.2.1, hs.2.2.2.1, m4, m5, hs.2.2.2.2.2.2.1, hs.2.2.2.2.2.2.2.1, hs.2.2.2.2.2.2.2.2.1, hs.2.2.2.2.2.2.2.2.2⟩
  · rw [(rc r r0 r1).1]
    exact I.2.2.2 r r0 r1
end PUR
