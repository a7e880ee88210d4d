/-! an act: what was is remembered, what is may change -/
def rmC (s : Nat → Int → Int32) : Nat → Int → Int32 := q_u (q_u (cpS s (q_r72 (q_g s 71 2)) 7) 71 2 ((q_g s 71 2 + 1) % 12)) 71 1 (if q_g s 71 1 < 12 then q_g s 71 1 + 1 else 12)
section AC
variable {d L : Nat} {xs : Nat → Int32} {s s2 t u : Nat → Int → Int32} {O : Nat → Int64} {c : Bool × Nat × Nat} {b b' : Int}
theorem LawP_ext {m m' g lw ln le cd : Int → Int} (h : LawP m g lw ln le cd) (e : ∀ z, z = 1 ∨ z = 2 ∨ 1049 ≤ z → m' z = m z) : LawP m' g lw ln le cd := by
  have e1 := e 1 (by omega)
  have e2 := e 2 (by omega)
  rcases h with ⟨h1, h2⟩ | ⟨h1, h2, h3, ls, h4, h5, h6⟩
  · exact Or.inl ⟨by rw [e1, h1], h2⟩
  · have eT : LT m' = LT m := by
      funext j
      unfold LT
      rw [e2]
      by_cases hj : 0 ≤ j ∧ j < m 2
      · rw [if_pos hj, if_pos hj, e (1049 + j) (by omega)]
      · rw [if_neg hj, if_neg hj]
    refine Or.inr ⟨by rw [e2]; exact h1, by rw [e2]; exact h2, fun j j0 j1 => ?_, ls, by rw [eT, e2]; exact h4, by rw [e1]; exact h5, h6⟩
    rw [e (1049 + j) (by omega)]
    rw [e2] at j1
    exact h3 j j0 j1
theorem rmC_n {k : Nat} {z : Int} (h1 : ¬ (k = 71 ∧ (z = 1 ∨ z = 2))) (h2 : k < q_r72 (q_g s 71 2) ∨ q_r72 (q_g s 71 2) + 13 < k) : rmC s k z = s k z := by
  unfold rmC
  rw [q_u_n (by omega), q_u_n (by omega), cpS_n h2]
theorem rmC_g {k : Nat} {z : Int} (h1 : ¬ (k = 71 ∧ (z = 1 ∨ z = 2))) (h2 : k < q_r72 (q_g s 71 2) ∨ q_r72 (q_g s 71 2) + 13 < k) : q_g (rmC s) k z = q_g s k z := by
  show (rmC s k z).toInt = _
  rw [rmC_n h1 h2]
  rfl
theorem rmC_f {k : Nat} (h1 : k ≠ 71) (h2 : k < 73 ∨ 240 < k) (n0 : 0 ≤ q_g s 71 2) (n1 : q_g s 71 2 < 12) : q_g (rmC s) k = q_g s k := funext fun z => rmC_g (by omega) (by unfold q_r72; omega)
theorem Big_act (B : Big b s) (hb : b ≤ b') (hc : ∀ k z, relz k z → ¬ (7 ≤ k ∧ k ≤ 20) → s2 k z = rmC s k z)
    (t1 : q_g t 285 6 = (if q_g s 71 1 < 12 then q_g s 71 1 + 1 else 12)) (t2 : ∀ k z, k ≠ 289 → ¬ (k = 285 ∧ z = 6) → t k z = s2 k z) (t3 : ∀ j z, 0 ≤ j → j < (if q_g s 71 1 < 12 then q_g s 71 1 + 1 else 12) - 1 → 0 ≤ z → z < 1049 → q_g t 289 (1049 * j + z) = q_g s2 289 (1049 * (if q_g s 71 1 < 12 then j else j + 1) + z)) (t4 : ∀ z, 0 ≤ z → z < 1049 → q_g t 289 (1049 * ((if q_g s 71 1 < 12 then q_g s 71 1 + 1 else 12) - 1) + z) = q_g s2 286 z)
    (hu : ∀ k z, relz k z → k ≠ 286 → u k z = t k z) (hm : ∀ z, z = 1 ∨ z = 2 ∨ 1049 ≤ z → q_g u 286 z = q_g s 286 z) (hR : RB (q_g u 286) u 7) (hI : Inv (q_g u 286) b') : Big b' u := by
  obtain ⟨⟨a1, a2, a3⟩, a4, a5, ⟨h6, A0, A1, n0, n1, hB⟩, a7⟩ := B
  have hr : 73 ≤ q_r72 (q_g s 71 2) ∧ q_r72 (q_g s 71 2) + 13 ≤ 240 := by unfold q_r72; omega
  -- what is as it was
  have ch : ∀ k z, relz k z → ¬ (7 ≤ k ∧ k ≤ 20) → k ≠ 286 → k ≠ 289 → ¬ (k = 285 ∧ z = 6) → ¬ (k = 71 ∧ (z = 1 ∨ z = 2)) → (k < q_r72 (q_g s 71 2) ∨ q_r72 (q_g s 71 2) + 13 < k) → u k z = s k z := fun k z c1 c2 c3 c4 c5 c6 c7 => by
    rw [hu k z c1 c3, t2 k z c4 c5, hc k z c1 c2, rmC_n c6 c7]
  have cg : ∀ k z, relz k z → ¬ (7 ≤ k ∧ k ≤ 20) → k ≠ 286 → k ≠ 289 → ¬ (k = 285 ∧ z = 6) → ¬ (k = 71 ∧ (z = 1 ∨ z = 2)) → (k < q_r72 (q_g s 71 2) ∨ q_r72 (q_g s 71 2) + 13 < k) → q_g u k z = q_g s k z := fun k z c1 c2 c3 c4 c5 c6 c7 => by
    show (u k z).toInt = _
    rw [ch k z c1 c2 c3 c4 c5 c6 c7]
    rfl
  have cf : ∀ k, relc k → ¬ (7 ≤ k ∧ k ≤ 20) → k ≠ 286 → k ≠ 289 → k ≠ 285 → k ≠ 71 → (k < q_r72 (q_g s 71 2) ∨ q_r72 (q_g s 71 2) + 13 < k) → q_g u k = q_g s k := fun k c1 c2 c3 c4 c5 c6 c7 => funext fun z => cg k z (Or.inl c1) c2 c3 c4 (by omega) (by omega) c7
  have u71 : q_g u 71 1 = (if q_g s 71 1 < 12 then q_g s 71 1 + 1 else 12) ∧ q_g u 71 2 = (q_g s 71 2 + 1) % 12 := by
    have e : ∀ z, q_g u 71 z = q_g (rmC s) 71 z := fun z => by
      show (u 71 z).toInt = (rmC s 71 z).toInt
      rw [hu 71 z (by unfold relz relc; omega) (by omega), t2 71 z (by omega) (by omega), hc 71 z (by unfold relz relc; omega) (by omega)]
    rw [e, e]
    unfold rmC
    refine ⟨?_, ?_⟩
    · rw [q_gu_eq rfl, q_sg_id (by split <;> omega) (by split <;> omega)]
    · rw [q_gu_ne (by omega), q_gu_eq rfl, q_sg_id (by omega) (by omega)]
  have u6 : q_g u 285 6 = (if q_g s 71 1 < 12 then q_g s 71 1 + 1 else 12) := by
    rw [← t1]
    show (u 285 6).toInt = _
    rw [hu 285 6 (by unfold relz relc; omega) (by omega)]
    rfl
  have e289 : ∀ z, q_g s2 289 z = q_g s 289 z := fun z => by
    show (s2 289 z).toInt = _
    rw [hc 289 z (by unfold relz relc; omega) (by omega), rmC_n (by omega) (by omega)]
    rfl
  have e286 : ∀ z, q_g s2 286 z = q_g s 286 z := fun z => by
    show (s2 286 z).toInt = _
    rw [hc 286 z (by unfold relz relc; omega) (by omega), rmC_n (by omega) (by omega)]
    rfl
  have u289 : ∀ z, q_g u 289 z = q_g t 289 z := fun z => by
    show (u 289 z).toInt = _
    rw [hu 289 z (by unfold relz relc; omega) (by omega)]
    rfl
  refine ⟨⟨hR, hI, ?_⟩, ?_, ?_, ?_, ?_⟩
  · rw [cf 49 (by unfold relc; omega) (by omega) (by omega) (by omega) (by omega) (by omega) (by omega), cf 50 (by unfold relc; omega) (by omega) (by omega) (by omega) (by omega) (by omega) (by omega), cf 51 (by unfold relc; omega) (by omega) (by omega) (by omega) (by omega) (by omega) (by omega), cf 52 (by unfold relc; omega) (by omega) (by omega) (by omega) (by omega) (by omega) (by omega), cf 53 (by unfold relc; omega) (by omega) (by omega) (by omega) (by omega) (by omega) (by omega)]
    exact LawP_ext a3 hm
  · rw [cg 285 8 (by unfold relz relc; omega) (by omega) (by omega) (by omega) (by omega) (by omega) (by omega), cg 2 1 (by unfold relz relc; omega) (by omega) (by omega) (by omega) (by omega) (by omega) (by omega), cf 3 (by unfold relc; omega) (by omega) (by omega) (by omega) (by omega) (by omega) (by omega), cf 290 (by unfold relc; omega) (by omega) (by omega) (by omega) (by omega) (by omega) (by omega)]
    exact a4
  · rw [cg 285 12 (by unfold relz relc; omega) (by omega) (by omega) (by omega) (by omega) (by omega) (by omega), cg 2 6 (by unfold relz relc; omega) (by omega) (by omega) (by omega) (by omega) (by omega) (by omega)]
    exact a5
  · rw [u6, u71.1, u71.2]
    refine ⟨rfl, by split <;> omega, by split <;> omega, by omega, by omega, fun j j0 j1 => ?_⟩
    have hh : hst u j = q_r72 (((q_g s 71 2 + 1) % 12 - (if q_g s 71 1 < 12 then q_g s 71 1 + 1 else 12) + j) % 12) := by
      unfold hst
      rw [u71.1, u71.2]
    by_cases hj : j = (if q_g s 71 1 < 12 then q_g s 71 1 + 1 else 12) - 1
    · -- the newest
      have hx : hst u j = q_r72 (q_g s 71 2) := by
        rw [hh]
        refine congrArg q_r72 ?_
        split at hj <;> omega
      have eb : ∀ z, 0 ≤ z → z < 1049 → blk u j z = q_g s 286 z := fun z z0 z1 => by
        unfold blk
        rw [u289, hj, t4 z z0 z1, e286]
      have cr : ∀ i z, i ≤ 13 → q_g u (q_r72 (q_g s 71 2) + i) z = q_g (cpS s (q_r72 (q_g s 71 2)) 7) (q_r72 (q_g s 71 2) + i) z := fun i z hi => by
        show (u (q_r72 (q_g s 71 2) + i) z).toInt = _
        rw [hu _ z (by unfold relz relc; omega) (by omega), t2 _ z (by omega) (by omega), hc _ z (by unfold relz relc; omega) (by omega)]
        unfold rmC
        rw [q_u_n (by omega), q_u_n (by omega)]
        rfl
      have hd : q_r72 (q_g s 71 2) + 14 ≤ 7 ∨ 7 + 14 ≤ q_r72 (q_g s 71 2) := by omega
      rw [hx]
      refine ⟨RB_cp a2 eb a1 (fun z z0 z1 => ?_) (fun z z0 z1 => ?_) (fun z z0 z1 => ?_) (fun z z0 z1 => ?_) (fun z z0 z1 => ?_) (fun z z0 z1 => ?_) (fun z hz => ?_), Inv_mono (Inv_ext eb a2) hb, ?_, ?_⟩
      · rw [cr 2 z (by omega), cr 3 z (by omega), cr 4 z (by omega), cr 5 z (by omega)]
        exact ⟨cpS_2 hd z0 z1, cpS_3 hd z0 z1, cpS_4 hd z0 z1, cpS_5 hd z0 z1⟩
      · rw [cr 6 z (by omega), cr 7 z (by omega)]
        exact ⟨cpS_6 hd z0 z1, cpS_7 hd z0 z1⟩
      · rw [cr 8 z (by omega)]
        exact cpS_8 hd z0 z1
      · rw [cr 9 z (by omega), cr 10 z (by omega)]
        exact ⟨cpS_9 hd z0 z1, cpS_10 hd z0 z1⟩
      · rw [cr 11 z (by omega), cr 12 z (by omega)]
        exact ⟨cpS_11 hd z0 z1, cpS_12 hd z0 z1⟩
      · rw [cr 13 z (by omega)]
        exact cpS_13 hd z0 z1
      · have := cr 0 z (by omega)
        rw [Nat.add_zero] at this
        rw [this]
        exact cpS_F hd hz
      · rw [eb 1 (by omega) (by omega), hm 1 (by omega)]
      · rw [eb 2 (by omega) (by omega), hm 2 (by omega)]
    · -- an elder one
      have hi0 : 0 ≤ (if q_g s 71 1 < 12 then j else j + 1) ∧ (if q_g s 71 1 < 12 then j else j + 1) < q_g s 71 1 := by
        by_cases h : q_g s 71 1 < 12
        · rw [if_pos h] at j1 hj ⊢
          omega
        · rw [if_neg h] at j1 hj ⊢
          omega
      have hx : hst u j = hst s (if q_g s 71 1 < 12 then j else j + 1) := by
        rw [hh]
        unfold hst
        refine congrArg q_r72 ?_
        by_cases h : q_g s 71 1 < 12
        · rw [if_pos h, if_pos h]
          omega
        · rw [if_neg h, if_neg h]
          omega
      have hne : hst u j + 13 < q_r72 (q_g s 71 2) ∨ q_r72 (q_g s 71 2) + 13 < hst u j := by
        rw [hx]
        unfold hst q_r72
        by_cases h : q_g s 71 1 < 12
        · rw [if_pos h] at hi0 ⊢
          omega
        · rw [if_neg h] at hi0 ⊢
          omega
      have hg := hst_rg u j
      have eb : ∀ z, 0 ≤ z → z < 1049 → blk u j z = blk s (if q_g s 71 1 < 12 then j else j + 1) z := fun z z0 z1 => by
        unfold blk
        rw [u289, t3 j z j0 (by omega) z0 z1, e289]
      obtain ⟨d1, d2, d3, d4⟩ := hB _ hi0.1 hi0.2
      rw [← hx] at d1
      have cr : ∀ i z, i ≤ 13 → q_g u (hst u j + i) z = q_g s (hst u j + i) z := fun i z hi => cg _ z (by unfold relz relc; omega) (by omega) (by omega) (by omega) (by omega) (by omega) (by omega)
      refine ⟨RB_cp d2 eb d1 (fun z z0 z1 => ⟨cr 2 z (by omega), cr 3 z (by omega), cr 4 z (by omega), cr 5 z (by omega)⟩) (fun z z0 z1 => ⟨cr 6 z (by omega), cr 7 z (by omega)⟩) (fun z z0 z1 => cr 8 z (by omega)) (fun z z0 z1 => ⟨cr 9 z (by omega), cr 10 z (by omega)⟩) (fun z z0 z1 => ⟨cr 11 z (by omega), cr 12 z (by omega)⟩) (fun z z0 z1 => cr 13 z (by omega)) (fun z hz => cr 0 z (by omega)), Inv_mono (Inv_ext eb d2) hb, ?_, ?_⟩
      · rw [eb 1 (by omega) (by omega), d3, hm 1 (by omega)]
      · rw [eb 2 (by omega) (by omega), d4, hm 2 (by omega)]
  · rw [cg 285 3 (by unfold relz relc; omega) (by omega) (by omega) (by omega) (by omega) (by omega) (by omega), cg 1 4 (by unfold relz relc; omega) (by omega) (by omega) (by omega) (by omega) (by omega) (by omega), cf 287 (by unfold relc; omega) (by omega) (by omega) (by omega) (by omega) (by omega) (by omega), cf 61 (by unfold relc; omega) (by omega) (by omega) (by omega) (by omega) (by omega) (by omega), cf 62 (by unfold relc; omega) (by omega) (by omega) (by omega) (by omega) (by omega) (by omega), cf 63 (by unfold relc; omega) (by omega) (by omega) (by omega) (by omega) (by omega) (by omega), cf 64 (by unfold relc; omega) (by omega) (by omega) (by omega) (by omega) (by omega) (by omega), cf 65 (by unfold relc; omega) (by omega) (by omega) (by omega) (by omega) (by omega) (by omega)]
    obtain ⟨c1, c2, c3⟩ := a7
    refine ⟨c1, c2, fun h1 => ?_⟩
    obtain ⟨d1, d2, d3⟩ := c3 h1
    exact ⟨rb_sm d1 (fun k h1 h2 => cf k (by unfold relc; omega) (by omega) (by omega) (by omega) (by omega) (by omega) (by omega)), Inv_mono d2 hb, d3⟩
end AC
