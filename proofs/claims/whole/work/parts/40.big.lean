/-! ALL THAT HOLDS between two calls of the law -/
def blk (s : Nat → Int → Int32) (j : Int) : Int → Int := fun z => q_g s 289 (1049 * j + z)
def hst (s : Nat → Int → Int32) (j : Int) : Nat := q_r72 ((q_g s 71 2 - q_g s 71 1 + j) % 12)
def Big (b : Int) (s : Nat → Int → Int32) : Prop :=
  (RB (q_g s 286) s 7 ∧ Inv (q_g s 286) b ∧ LawP (q_g s 286) (q_g s 49) (q_g s 50) (q_g s 51) (q_g s 52) (q_g s 53)) ∧
  (q_g s 285 8 = q_g s 2 1 ∧ 0 ≤ q_g s 2 1 ∧ q_g s 2 1 ≤ 400 ∧ ∀ k, 0 ≤ k → k < q_g s 2 1 → q_g s 3 k = q_g s 290 k ∧ 0 ≤ q_g s 290 k ∧ q_g s 290 k ≤ 255) ∧
  (q_g s 285 12 = q_g s 2 6) ∧
  (q_g s 285 6 = q_g s 71 1 ∧ 0 ≤ q_g s 71 1 ∧ q_g s 71 1 ≤ 12 ∧ 0 ≤ q_g s 71 2 ∧ q_g s 71 2 < 12 ∧ ∀ j, 0 ≤ j → j < q_g s 71 1 → RB (blk s j) s (hst s j) ∧ Inv (blk s j) b ∧ blk s j 1 = q_g s 286 1 ∧ blk s j 2 = q_g s 286 2) ∧
  (q_g s 285 3 = q_g s 1 4 ∧ (q_g s 1 4 = 0 ∨ q_g s 1 4 = 1) ∧ (q_g s 1 4 = 1 → RB (q_g s 287) s 35 ∧ Inv (q_g s 287) b ∧ LawP (q_g s 287) (q_g s 61) (q_g s 62) (q_g s 63) (q_g s 64) (q_g s 65)))
/-- what of the heap that speaks of -/
def relc (k : Nat) : Prop := k = 3 ∨ 7 ≤ k ∧ k ≤ 20 ∨ 35 ≤ k ∧ k ≤ 53 ∨ 61 ≤ k ∧ k ≤ 65 ∨ 71 ≤ k ∧ k ≤ 240 ∨ k = 286 ∨ k = 287 ∨ k = 289 ∨ k = 290
def relz (k : Nat) (z : Int) : Prop := relc k ∨ k = 1 ∧ z = 4 ∨ k = 2 ∧ (z = 1 ∨ z = 6) ∨ k = 285 ∧ (z = 3 ∨ z = 6 ∨ z = 8 ∨ z = 12)
def Sm (s t : Nat → Int → Int32) : Prop := ∀ k z, relz k z → t k z = s k z
section BG
variable {s t u : Nat → Int → Int32} {b : Int}
theorem Sm_rfl : Sm s s := fun _ _ _ => rfl
theorem Sm_trans (h : Sm s t) (h' : Sm t u) : Sm s u := fun k z hz => (h' k z hz).trans (h k z hz)
theorem Sm_u {k : Nat} {z v : Int} (h : Sm s t) (hk : ¬ relz k z) : Sm s (q_u t k z v) := by
  intro k' z' hz
  unfold q_u
  rw [if_neg, h k' z' hz]
  rintro ⟨e1, e2⟩
  exact hk (e1 ▸ e2 ▸ hz)
theorem Sm_v {k : Nat} {lo n : Int} {W : Int → Int32} (h : Sm s t) (hk : ∀ z, ¬ relz k z) : Sm s (q_v t k lo n W) := by
  intro k' z' hz
  unfold q_v
  rw [if_neg, h k' z' hz]
  rintro ⟨e1, e2⟩
  exact hk z' (e1 ▸ hz)
theorem Sm_w {k : Nat} {lo n : Int} {W : Int → Int32} (h : Sm s t) (hk : ∀ z, ¬ relz k z) : Sm s (q_w t k lo n W) := by
  intro k' z' hz
  unfold q_w
  rw [if_neg, h k' z' hz]
  rintro ⟨e1, e2⟩
  exact hk z' (e1 ▸ hz)
theorem Sm_k (h : ∀ k, k < 270 ∨ 284 < k → t k = s k) : Sm s t := by
  intro k z hz
  rw [h k]
  unfold relz relc at hz
  omega
theorem Sm_wk {m : Int → Int} {r v : Int} (h : Sm s t) (h0 : 0 ≤ v) (h1 : v < 5) : Sm s (wk m r t (q_r264 v)) := Sm_trans h (Sm_k (fun k hk => wk_c (by unfold q_r264; omega)))
theorem Sm_g (h : Sm s t) {k : Nat} {z : Int} (hz : relz k z) : q_g t k z = q_g s k z := by
  unfold q_g
  rw [h k z hz]
theorem Sm_f (h : Sm s t) {k : Nat} (hk : relc k) : q_g t k = q_g s k := funext fun z => Sm_g h (Or.inl hk)
theorem rb_sm {m : Int → Int} {q : Nat} (H : RB m s q) (h : ∀ k, q ≤ k → k ≤ q + 13 → q_g t k = q_g s k) : RB m t q := by
  unfold RB at *
  rw [h q (by omega) (by omega), h (q + 2) (by omega) (by omega), h (q + 3) (by omega) (by omega), h (q + 4) (by omega) (by omega), h (q + 5) (by omega) (by omega), h (q + 6) (by omega) (by omega), h (q + 7) (by omega) (by omega), h (q + 8) (by omega) (by omega), h (q + 9) (by omega) (by omega), h (q + 10) (by omega) (by omega), h (q + 11) (by omega) (by omega), h (q + 12) (by omega) (by omega), h (q + 13) (by omega) (by omega)]
  exact H
theorem hst_rg (s : Nat → Int → Int32) (j : Int) : 73 ≤ hst s j ∧ hst s j + 13 ≤ 240 := by
  unfold hst q_r72
  omega
theorem Big_sm (B : Big b s) (h : Sm s t) : Big b t := by
  have f : ∀ k, relc k → q_g t k = q_g s k := fun k hk => Sm_f h hk
  have g : ∀ k z, relz k z → q_g t k z = q_g s k z := fun k z hz => Sm_g h hz
  have fb : blk t = blk s := by
    funext j z
    exact g 289 _ (by unfold relz relc; omega)
  have fh : hst t = hst s := by
    funext j
    unfold hst
    rw [f 71 (by unfold relc; omega)]
  obtain ⟨⟨a1, a2, a3⟩, a4, a5, a6, a7⟩ := B
  refine ⟨⟨?_, ?_, ?_⟩, ?_, ?_, ?_, ?_⟩
  · rw [f 286 (by unfold relc; omega)]
    exact rb_sm a1 (fun k h1 h2 => f k (by unfold relc; omega))
  · rw [f 286 (by unfold relc; omega)]
    exact a2
  · rw [f 286 (by unfold relc; omega), f 49 (by unfold relc; omega), f 50 (by unfold relc; omega), f 51 (by unfold relc; omega), f 52 (by unfold relc; omega), f 53 (by unfold relc; omega)]
    exact a3
  · rw [g 285 8 (by unfold relz relc; omega), g 2 1 (by unfold relz relc; omega), f 3 (by unfold relc; omega), f 290 (by unfold relc; omega)]
    exact a4
  · rw [g 285 12 (by unfold relz relc; omega), g 2 6 (by unfold relz relc; omega)]
    exact a5
  · rw [g 285 6 (by unfold relz relc; omega), f 71 (by unfold relc; omega), f 286 (by unfold relc; omega), fb, fh]
    obtain ⟨c1, c2, c3, c4, c5, c6⟩ := a6
    refine ⟨c1, c2, c3, c4, c5, fun j h1 h2 => ?_⟩
    obtain ⟨d1, d2, d3, d4⟩ := c6 j h1 h2
    have := hst_rg s j
    exact ⟨rb_sm d1 (fun k h1 h2 => f k (by unfold relc; omega)), d2, d3, d4⟩
  · rw [g 285 3 (by unfold relz relc; omega), g 1 4 (by unfold relz relc; omega), f 287 (by unfold relc; omega), f 61 (by unfold relc; omega), f 62 (by unfold relc; omega), f 63 (by unfold relc; omega), f 64 (by unfold relc; omega), f 65 (by unfold relc; omega)]
    obtain ⟨c1, c2, c3⟩ := a7
    refine ⟨c1, c2, fun h1 => ?_⟩
    obtain ⟨d1, d2, d3⟩ := c3 h1
    exact ⟨rb_sm d1 (fun k h1 h2 => f k (by unfold relc; omega)), d2, d3⟩
theorem inv_hd {m : Int → Int} (I : Inv m b) : HdI m := ⟨I.1.1.1, I.1.1.2.1, I.1.1.2.2.1⟩
theorem TreeD_le {m : Int → Int} {top top' : Int} {Lv : Int → Prop} {r : Int} (T : TreeD m top Lv r) (h : top ≤ top') : TreeD m top' Lv r := by
  rcases T with ⟨e, h'⟩ | ⟨n, ht, hb, hn, T, Od, hr⟩
  · exact Or.inl ⟨e, h'⟩
  · refine Or.inr ⟨n, ht, hb, hn, ⟨T.1, fun p hp => ?_, T.2.2⟩, Od, hr⟩
    have := T.2.1 p hp
    exact ⟨this.1, by omega, this.2.2⟩
theorem inv_vw {m : Int → Int} (I : Inv m b) : Vw m := by
  obtain ⟨⟨_, _, _, ⟨_, _, h2, h48⟩, Lv, sl, T, _, _, Rd⟩, _, _, _⟩ := I
  intro v h0 h1
  unfold ve vo vr
  by_cases h : v = 4
  · subst h
    exact ⟨Lv, TreeD_le T h48⟩
  · by_cases ho : m (9 + 2 * v) = -1
    · refine ⟨fun _ => False, Or.inl ⟨?_, fun _ => id⟩⟩
      rw [if_neg]
      simp [h, ho]
    · obtain ⟨_, _, Lr, Tr, _⟩ := Rd v h0 (by omega) ho
      refine ⟨Lr, ?_⟩
      rw [if_pos (by simp [ho]), if_neg h]
      exact TreeD_le Tr h48
end BG
/-- the counts of the machine, before and after -/
def Cn (c c' : Bool × Nat × Nat) : Prop := c' = c ∨ c' = q_th c
/-- a call that may be refused, of both -/
def Op (Bg : (Nat → Int → Int32) → Prop) (W M : ex_H → Option (ex_R × ex_H)) (L : Nat) (xs : Nat → Int32) (s : Nat → Int → Int32) (O : Nat → Int64) (c : Bool × Nat × Nat) : Prop :=
  ∃ (k v : Int) (t t' : Nat → Int → Int32) (O' : Nat → Int64) (c' : Bool × Nat × Nat), W (q_h L xs s O c) = some (.inl (some (.int (q_I k))), q_h L xs t O' c') ∧ M (q_h L xs t O' c') = some (.inl (some (.int (q_I v))), q_h L xs t' O' c') ∧ 0 ≤ k ∧ k < 4 ∧ q_g t' 285 0 = k ∧ (k = 0 → O' 0 = (q_I v).toInt64) ∧ Cn c c' ∧ Bg t'
/-- a call that is never refused -/
def Op0 (Bg : (Nat → Int → Int32) → Prop) (W M : ex_H → Option (ex_R × ex_H)) (L : Nat) (xs : Nat → Int32) (s : Nat → Int → Int32) (O : Nat → Int64) (c : Bool × Nat × Nat) : Prop :=
  ∃ (v : Int) (t t' : Nat → Int → Int32), W (q_h L xs s O c) = some (.inl (some (.int (q_I v))), q_h L xs t O c) ∧ M (q_h L xs t O c) = some (.inl (some (.int (q_I v))), q_h L xs t' O c) ∧ Bg t'
