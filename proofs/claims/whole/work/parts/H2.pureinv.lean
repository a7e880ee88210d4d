/-! WRITES: what holds behind them -/
section PIV
variable {m pl y x : Int → Int} {b K k sc pw : Int} {T : Option Tr} {Lf Lv : Int → Prop} {dr : Bool}
theorem lgr_n {num what made z : Int} (h : ¬ (41 ≤ z ∧ z < 281)) (h6 : z ≠ 6) : lgr num what made x z = x z := by
  unfold lgr
  rw [if_neg (by omega), if_neg (by omega), if_neg (by omega), if_neg (by omega), if_neg (by omega), if_neg h6]
theorem lgr_6 {num what made : Int} : lgr num what made x 6 = mn 60 (x 6 + 1) := by
  unfold lgr
  rw [if_neg (by omega), if_neg (by omega), if_neg (by omega), if_neg (by omega), if_neg (by omega), if_pos rfl]
theorem lsp_n {z : Int} (h : z ≠ 8 ∧ z ≠ 9 ∧ z ≠ 11 ∧ z ≠ 13 ∧ z ≠ 15) : lsp x z = x z := by
  unfold lsp
  rw [if_neg (by omega), if_neg (by omega)]
theorem trp_n {q z : Int} (h : ¬ (281 + 16 * q ≤ z ∧ z < 297 + 16 * q)) : trp q x z = x z := if_neg h
theorem mn_rg {a c : Int} (a0 : 0 ≤ a) (c0 : 0 ≤ c) : 0 ≤ mn a c ∧ mn a c ≤ a := by
  unfold mn
  split <;> omega
/-- power fails -/
theorem fail_inv (I : Inv m b) (hb : b < 2147483646) (PT : PTo T) (pI : PlI m T Lf sc pl) (s0 : 0 ≤ sc) (kn : 0 ≤ cNo T) (Kc : cNo T + sc ≤ cap m) (k0 : 0 ≤ k) (k1 : k ≤ cNo T + sc) (M : Mid m (cNo T + sc) pl k y) {num made : Int} : Inv (lgr num 1 made (lsp (trp (wq m (cNo T + sc) k) (sdr dr y)))) b := by
  have Tk := inv_tk I (by omega)
  have K0 : 0 ≤ cNo T + sc := by omega
  have qr := wq_rg Tk K0 Kc k0 k1
  have hh := hd_01 m
  obtain ⟨m1, m2, m3, m4, m5⟩ := M
  generalize hq : wq m (cNo T + sc) k = q at *
  have wear := I.1.2.2.1 q qr.1 qr.2
  have low : ∀ z, z < 281 → z ≠ 7 → ¬ (41 ≤ z ∧ z < 281) → z ≠ 6 → lgr num 1 made (lsp (trp q (sdr dr y))) z = lsp y z := fun z h1 h2 h3 h4 => by
    rw [lgr_n h3 h4]
    unfold lsp
    repeat' split
    · rfl
    · rfl
    · rw [trp_n (by omega), sdr_n h2]
  have page : ∀ p w, 0 ≤ p → 0 ≤ w → w < 16 → pg (lgr num 1 made (lsp (trp q (sdr dr y)))) p w = pg (trp q (sdr dr y)) p w := fun p w p0 w0 w1 => by
    unfold pg
    rw [lgr_n (by omega) (by omega), lsp_n (by omega)]
  have pageo : ∀ p w, 0 ≤ p → p ≠ q → 0 ≤ w → w < 16 → pg (lgr num 1 made (lsp (trp q (sdr dr y)))) p w = pg y p w := fun p w p0 pq w0 w1 => by
    rw [page p w p0 w0 w1]
    show trp q (sdr dr y) (281 + 16 * p + w) = _
    rw [trp_n (by omega)]
    exact sdr_n (by omega)
  have qold : pg y q 2 = pg m q 2 := m2 q qr.1 qr.2 (fun i i0 i1 => by rw [← hq]; exact wq_inj Tk K0 Kc i0 i1 k1) 2 (by omega) (by omega)
  have pq : pg (lgr num 1 made (lsp (trp q (sdr dr y)))) q 0 = 5 ∧ pg (lgr num 1 made (lsp (trp q (sdr dr y)))) q 1 = 0 ∧ pg (lgr num 1 made (lsp (trp q (sdr dr y)))) q 2 = mn 9999 (pg m q 2 + 1) ∧ pg (lgr num 1 made (lsp (trp q (sdr dr y)))) q 3 = -1 := by
    rw [page q 0 qr.1 (by omega) (by omega), page q 1 qr.1 (by omega) (by omega), page q 2 qr.1 (by omega) (by omega), page q 3 qr.1 (by omega) (by omega)]
    refine ⟨?_, ?_, ?_, ?_⟩
    · unfold pg trp
      rw [if_pos (by omega), if_neg (by omega), if_pos (by omega)]
    · unfold pg trp
      rw [if_pos (by omega), if_neg (by omega), if_neg (by omega), if_neg (by omega)]
    · have e : pg (trp q (sdr dr y)) q 2 = mn 9999 (pg (sdr dr y) q 2 + 1) := by
        unfold pg trp
        rw [if_pos (by omega), if_pos (by omega)]
      rw [e, sdr_pg qr.1 (by omega), qold]
    · unfold pg trp
      rw [if_pos (by omega), if_neg (by omega), if_neg (by omega), if_pos (by omega)]
  have wm := mn_rg (a := 9999) (c := pg m q 2 + 1) (by omega) (by omega)
  have rd : ∀ r, 0 ≤ r → r < 4 → lgr num 1 made (lsp (trp q (sdr dr y))) (9 + 2 * r) = -1 := fun r r0 r1 => by
    rw [low _ (by omega) (by omega) (by omega) (by omega)]
    unfold lsp
    rw [if_neg (by omega), if_pos (by omega)]
  refine ⟨DiskI_w (Wst := fun p => (∃ i, 0 ≤ i ∧ i < k ∧ wq m (cNo T + sc) i = p) ∨ p = q) I hb K0 Kc (fun p p0 p1 hn w w0 w1 => ?_) ?_ (fun r r0 r1 h => absurd (rd r r0 r1) h), ?_, ?_, fun r r0 r1 => by rw [rd r r0 r1]; omega⟩
  · rw [pageo p w p0 (fun e => hn (Or.inr e)) w0 w1]
    exact m2 p p0 p1 (fun i i0 i1 e => hn (Or.inl ⟨i, i0, i1, e⟩)) w w0 w1
  · intro p hp
    by_cases e : p = q
    · subst e
      by_cases ek : k = cNo T + sc
      · refine Or.inr ⟨by rw [← hq, ek, wq_K], ?_⟩
        unfold GoodH
        omega
      · obtain ⟨b1, b2, b3, b4⟩ := wq_tk Tk K0 Kc k0 (show k < cNo T + sc by omega)
        rw [hq] at b3
        refine Or.inl ⟨b3, ?_⟩
        unfold GoodR
        omega
    · rcases hp with ⟨i, i0, i1, ei⟩ | ei
      · obtain ⟨b1, b2, b3, b4⟩ := wq_tk Tk K0 Kc i0 (show i < cNo T + sc by omega)
        obtain ⟨g1, g2, g3, g4, g5⟩ := pl_good Tk PT pI s0 Kc b3
        obtain ⟨y1, y2, y3⟩ := m3 i i0 i1
        rw [ei] at b1 b3 g1 g2 g3 g4 g5 y1 y2 y3
        have y0 := y1 0 (by omega) (by omega) (by omega)
        rw [Int.add_zero] at y0
        refine Or.inl ⟨b3, ?_⟩
        unfold GoodR
        rw [pageo p 0 b1 e (by omega) (by omega), pageo p 1 b1 e (by omega) (by omega), pageo p 2 b1 e (by omega) (by omega), pageo p 3 b1 e (by omega) (by omega), y0, y1 1 (by omega) (by omega) (by omega), y1 3 (by omega) (by omega) (by omega)]
        exact ⟨by omega, g2, g3, fun h => by omega, g4, y2, y3, g5⟩
      · exact absurd ei e
  · have e8 : lgr num 1 made (lsp (trp q (sdr dr y))) 8 = 0 := by
      rw [low 8 (by omega) (by omega) (by omega) (by omega)]
      rfl
    rw [e8]
    exact ⟨by omega, by omega, fun k k0 k1 => by omega⟩
  · have hs := I.2.2.1
    have e6 : lgr num 1 made (lsp (trp q (sdr dr y))) 6 = mn 60 (m 6 + 1) := by
      rw [lgr_6, lsp_n (by omega), trp_n (by omega), sdr_n (by omega), m1 6 (by omega) (by omega) (by omega)]
    have r6 := mn_rg (a := 60) (c := m 6 + 1) (by omega) (by omega)
    rw [low 0 (by omega) (by omega) (by omega) (by omega), low 3 (by omega) (by omega) (by omega) (by omega), low 4 (by omega) (by omega) (by omega) (by omega), low 5 (by omega) (by omega) (by omega) (by omega), lsp_n (by omega), lsp_n (by omega), lsp_n (by omega), lsp_n (by omega), m1 0 (by omega) (by omega) (by omega), m1 3 (by omega) (by omega) (by omega), m1 5 (by omega) (by omega) (by omega), e6]
    exact ⟨hs.1, hs.2.1, hs.2.2.1, hs.2.2.2.1, m4, m5, hs.2.2.2.2.2.2.1, hs.2.2.2.2.2.2.2.1, r6.1, r6.2⟩
/-- all is written -/
theorem done_inv (I : Inv m b) (hb : b < 2147483646) (D : Dsk m Lv) (PT : PTo T) (LP : LfP Lv T Lf) (OL : OldO (dk m) T) (DP : DPo T) (Sc : ScI m (frN m Lf) (cNo T) sc) (Kc : cNo T + sc ≤ cap m) (pI : PlI m T Lf sc pl) (kn : 0 ≤ cNo T) (M : Mid m (cNo T + sc) pl (cNo T + sc + 1) y) {num made : Int} : Inv (lgr num 0 made y) (b + 1) := by
  have Tk := inv_tk I (by omega)
  have s0 := Sc.1
  have K0 : 0 ≤ cNo T + sc := by omega
  have hh := hd_01 m
  obtain ⟨m1, m2, m3, m4, m5⟩ := M
  have page : ∀ p w, 0 ≤ p → 0 ≤ w → pg (lgr num 0 made y) p w = pg y p w := fun p w p0 w0 => lgr_n (by omega) (by omega)
  have wqs : ∀ p, TK m (cNo T + sc) p ∨ p = 1 - hd m → ∃ i, 0 ≤ i ∧ i < cNo T + sc + 1 ∧ wq m (cNo T + sc) i = p := fun p hp => by
    rcases hp with h | h
    · have r := TK_rg Tk Kc K0 h
      obtain ⟨a1, a2, a3⟩ := wq_eq Tk K0 Kc (show 0 ≤ p by omega) r.2.1 h
      exact ⟨_, a2, by omega, a1⟩
    · exact ⟨cNo T + sc, K0, by omega, by rw [wq_K, h]⟩
  have hs := I.2.2.1
  have rc : ∀ r, 0 ≤ r → r < 4 → lgr num 0 made y (9 + 2 * r) = m (9 + 2 * r) ∧ lgr num 0 made y (10 + 2 * r) = m (10 + 2 * r) := fun r r0 r1 => by
    rw [lgr_n (by omega) (by omega), lgr_n (by omega) (by omega)]
    exact ⟨m1 _ (by omega) (by omega) (by omega), m1 _ (by omega) (by omega) (by omega)⟩
  refine ⟨DiskI_new I hb D PT LP OL DP Sc Kc pI ⟨fun p p0 p1 h1 h2 w w0 w1 => ?_, fun p hp => ?_⟩ (fun r r0 r1 _ => rc r r0 r1), ?_, ?_, fun r r0 r1 => by rw [(rc r r0 r1).1]; exact I.2.2.2 r r0 r1⟩
  · rw [page p w p0 w0]
    refine m2 p p0 p1 (fun i i0 i1 e => ?_) w w0 w1
    by_cases ei : i = cNo T + sc
    · rw [ei, wq_K] at e
      exact h2 e.symm
    · obtain ⟨b1, b2, b3, b4⟩ := wq_tk Tk K0 Kc i0 (show i < cNo T + sc by omega)
      rw [e] at b3
      exact h1 b3
  · obtain ⟨i, i0, i1, e⟩ := wqs p hp
    obtain ⟨b1, b2, b3⟩ := m3 i i0 i1
    rw [e] at b1 b2 b3
    have p0 : 0 ≤ p := by
      have := wq_rg Tk K0 Kc i0 (show i ≤ cNo T + sc by omega)
      omega
    rw [page p 2 p0 (by omega)]
    exact ⟨fun w w0 w1 w2 => by rw [page p w p0 w0]; exact b1 w w0 w1 w2, b2, b3⟩
  · have h8 := I.2.1
    rw [lgr_n (by omega) (by omega), m1 8 (by omega) (by omega) (by omega)]
    refine ⟨h8.1, h8.2.1, fun k k0 k1 => ?_⟩
    rw [lgr_n (by omega) (by omega), lgr_n (by omega) (by omega), m1 (17 + 2 * k) (by omega) (by omega) (by omega), m1 (18 + 2 * k) (by omega) (by omega) (by omega)]
    exact h8.2.2 k k0 k1
  · have r6 := mn_rg (a := 60) (c := m 6 + 1) (by omega) (by omega)
    rw [lgr_n (by omega) (by omega), lgr_n (by omega) (by omega), lgr_n (by omega) (by omega), lgr_n (by omega) (by omega), lgr_6, m1 0 (by omega) (by omega) (by omega), m1 3 (by omega) (by omega) (by omega), m1 5 (by omega) (by omega) (by omega), m1 6 (by omega) (by omega) (by omega)]
    exact ⟨hs.1, hs.2.1, hs.2.2.1, hs.2.2.2.1, m4, m5, hs.2.2.2.2.2.2.1, hs.2.2.2.2.2.2.2.1, r6.1, r6.2⟩
/-- all that a perform may come to -/
theorem prfm_inv (I : Inv m b) (hb : b < 2147483646) (D : Dsk m Lv) (PT : PTo T) (LP : LfP Lv T Lf) (OL : OldO (dk m) T) (DP : DPo T) (Sc : ScI m (frN m Lf) (cNo T) sc) (Kc : cNo T + sc ≤ cap m) (pI : PlI m T Lf sc pl) (kn : 0 ≤ cNo T) (hc : ∀ k, 0 ≤ k → k ≤ cNo T + sc → 0 ≤ cst m pl (wq m (cNo T + sc) k)) : ∀ (f : Nat) (k : Int) (y : Int → Int), cNo T + sc + 1 - k = f → 0 ≤ k → Mid m (cNo T + sc) pl k y → Inv (prfm m pl (cNo T + sc) dr pw f k y).2 (b + 1) ∧ (∀ z, z < 0 ∨ z = 0 ∨ z = 1 ∨ z = 2 ∨ z = 3 ∨ z = 5 ∨ 1049 ≤ z → (prfm m pl (cNo T + sc) dr pw f k y).2 z = m z) ∧ ((prfm m pl (cNo T + sc) dr pw f k y).1 = 0 ∨ (prfm m pl (cNo T + sc) dr pw f k y).1 = 1)
  | 0, k, y, hf, k0, M => by
    have e : k = cNo T + sc + 1 := by omega
    subst e
    refine ⟨done_inv I hb D PT LP OL DP Sc Kc pI kn M, fun z hz => ?_, Or.inl rfl⟩
    show lgr _ _ _ y z = m z
    rw [lgr_n (by omega) (by omega)]
    exact M.1 z (by omega) (by omega) (by omega)
  | f + 1, k, y, hf, k0, M => by
    have s0 := Sc.1
    have Tk := inv_tk I (by omega)
    unfold prfm
    by_cases c : flz dr pw k (rsk m pl (wq m (cNo T + sc) k)) (y 7)
    · rw [if_pos c]
      refine ⟨Inv_mono (fail_inv I hb PT pI s0 kn Kc k0 (by omega) M) (by omega), fun z hz => ?_, Or.inr rfl⟩
      have qr := wq_rg Tk (show 0 ≤ cNo T + sc by omega) Kc k0 (show k ≤ cNo T + sc by omega)
      show lgr _ _ _ (lsp (trp _ (sdr dr y))) z = m z
      rw [lgr_n (by omega) (by omega), lsp_n (by omega), trp_n (by omega), sdr_n (by omega)]
      exact M.1 z (by omega) (by omega) (by omega)
    · rw [if_neg c]
      exact prfm_inv I hb D PT LP OL DP Sc Kc pI kn hc f (k + 1) _ (by omega) (by omega) (Mid_1 Tk I (by omega) Kc k0 (by omega) M (hc k k0 (by omega)))
end PIV
