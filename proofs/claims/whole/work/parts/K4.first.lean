/-! THE FIRST MEMORY, behind the constructors -/
theorem row0_rg (z : Int) : -1 ≤ row0 z ∧ row0 z ≤ 5 := by
  unfold row0
  repeat' split
  all_goals omega
theorem st0_rg (o : Nat) (z : Int) : -1 ≤ st0 o z ∧ st0 o z ≤ 5 := by
  unfold st0
  repeat' split
  all_goals omega
theorem g0_286 : q_g mem0 286 = row0 := by
  funext z
  have := row0_rg z
  show (mem0 286 z).toInt = _
  unfold mem0
  rw [if_pos rfl]
  exact q_sg_id (by omega) (by omega)
theorem g0_st {k : Nat} {z : Int} (h1 : k ≠ 286) (h2 : ¬ (k = 1 ∧ z = 18 ∨ k = 2 ∧ z = 6 ∨ (k = 49 ∨ k = 55 ∨ k = 61) ∧ z = 0 ∨ k = 68 ∧ (z = 4 ∨ z = 5) ∨ k = 242 ∧ z = 10 ∨ k = 285 ∧ z = 12)) : q_g mem0 k z = st0 (off0 k) z := by
  have := st0_rg (off0 k) z
  show (mem0 k z).toInt = _
  unfold mem0
  rw [if_neg h1, if_neg h2]
  exact q_sg_id (by omega) (by omega)
theorem g0_m1 {k : Nat} {z : Int} (h1 : k ≠ 286) (h2 : k = 1 ∧ z = 18 ∨ k = 2 ∧ z = 6 ∨ (k = 49 ∨ k = 55 ∨ k = 61) ∧ z = 0 ∨ k = 68 ∧ (z = 4 ∨ z = 5) ∨ k = 242 ∧ z = 10 ∨ k = 285 ∧ z = 12) : q_g mem0 k z = -1 := by
  show (mem0 k z).toInt = _
  unfold mem0
  rw [if_neg h1, if_pos h2]
  rfl
theorem g0_7 {o : Nat} {z : Int} (h : o < 14) : q_g mem0 (7 + o) z = st0 o z := by
  rw [g0_st (by omega) (by omega)]
  unfold off0
  rw [if_pos (by omega), show (7 + o - 7) % 14 = o by omega]
theorem pg0 {p w : Int} (p0 : 0 ≤ p) (p1 : p < 48) (w0 : 0 ≤ w) (w1 : w < 16) : pg row0 p w = if p = 0 ∧ w = 0 then 4 else if p = 1 ∧ w = 0 then 5 else if p = 0 ∧ (w = 5 ∨ w = 6) then -1 else if p = 0 ∧ w = 7 then 2 else if w = 3 then -1 else 0 := by
  unfold pg row0
  repeat' split
  all_goals omega
theorem hd0 : hd row0 = 0 := by decide +kernel
theorem hc0' {w : Int} (w0 : 0 ≤ w) (w1 : w < 12) : hc row0 w = if w = 1 ∨ w = 2 then -1 else if w = 3 then 2 else 0 := by
  unfold hc
  rw [hd0, pg0 (by omega) (by omega) (by omega) (by omega)]
  repeat' split
  all_goals omega
theorem row0_lo {z : Int} (h0 : 0 ≤ z) (h1 : z < 281) : row0 z = if z = 1 then -1 else if z = 7 then 1 else if z = 9 ∨ z = 11 ∨ z = 13 ∨ z = 15 then -1 else 0 := by
  unfold row0
  repeat' split
  all_goals omega
theorem Inv_0 : Inv row0 0 := by
  refine ⟨⟨?_, fun p p0 p1 => ?_, fun p p0 p1 => ?_, ?_, fun _ => False, [], Or.inl ⟨?_, fun _ h => h⟩, ⟨?_, List.nodup_nil, fun y h => absurd h List.not_mem_nil, fun p n h => ?_, fun y y' k k' h => absurd h List.not_mem_nil⟩, fun p h => h.elim, fun r r0 r1 h => ?_⟩, ?_, ?_, fun r r0 r1 => (row0_rg _).1⟩
  · rw [hd0]
    decide +kernel
  · rw [pg0 (by omega) p1 (by omega) (by omega), pg0 (by omega) p1 (by omega) (by omega)]
    repeat' split
    all_goals omega
  · rw [pg0 p0 p1 (by omega) (by omega), pg0 p0 p1 (by omega) (by omega), pg0 p0 p1 (by omega) (by omega)]
    repeat' split
    all_goals omega
  · rw [hc0' (by omega) (by omega), hc0' (by omega) (by omega)]
    decide
  · rw [hc0' (by omega) (by omega)]
    decide
  · rw [hc0' (by omega) (by omega)]
    exact (by decide : (if (2 : Int) = 1 ∨ (2 : Int) = 2 then (-1 : Int) else if (2 : Int) = 3 then 2 else 0) = -1)
  · obtain ⟨y, hy, -⟩ := h
    exact absurd hy List.not_mem_nil
  · exfalso
    apply h
    rw [row0_lo (by omega) (by omega)]
    repeat' split
    all_goals omega
  · rw [row0_lo (by omega) (by omega)]
    exact ⟨by decide, by decide, fun k k0 k1 => absurd k1 (by
      rw [if_neg (by omega), if_neg (by omega), if_neg (by omega)]
      omega)⟩
  · decide +kernel
theorem RB_0 : RB row0 mem0 7 := by
  refine ⟨fun p p0 p1 => ?_, fun h h0 h1 hk w w0 w1 => ?_, fun r r0 r1 => ?_, ?_, ?_, ?_, fun a w a0 a1 => ?_⟩
  · rw [g0_7 (o := 2) (by omega), g0_7 (o := 3) (by omega), g0_7 (o := 4) (by omega), g0_7 (o := 5) (by omega), pg0 p0 p1 (by omega) (by omega), pg0 p0 p1 (by omega) (by omega), pg0 p0 p1 (by omega) (by omega), pg0 p0 p1 (by omega) (by omega)]
    refine ⟨?_, ?_, ?_, ?_, fun k k0 k1 => ?_⟩
    · unfold st0
      repeat' split
      all_goals omega
    · unfold st0
      repeat' split
      all_goals omega
    · unfold st0
      repeat' split
      all_goals omega
    · unfold st0
      repeat' split
      all_goals omega
    · exfalso
      revert k1
      repeat' split
      all_goals omega
  · rw [pg0 h0 (by omega) (by omega) (by omega)] at hk
    have e : h = 0 := by
      revert hk
      repeat' split
      all_goals omega
    subst e
    rw [g0_7 (o := 8) (by omega), pg0 (by omega) (by omega) (by omega) (by omega)]
    unfold st0
    repeat' split
    all_goals omega
  · rw [g0_7 (o := 9) (by omega), g0_7 (o := 10) (by omega), row0_lo (by omega) (by omega)]
    have e9 : st0 9 r = -1 := by
      unfold st0
      repeat' split
      all_goals omega
    have e10 : st0 10 r = -1 := by
      unfold st0
      repeat' split
      all_goals omega
    have er : (if 9 + 2 * r = 1 then (-1 : Int) else if 9 + 2 * r = 7 then 1 else if 9 + 2 * r = 9 ∨ 9 + 2 * r = 11 ∨ 9 + 2 * r = 13 ∨ 9 + 2 * r = 15 then -1 else 0) = -1 := by
      repeat' split
      all_goals omega
    rw [e9, e10, er]
    exact ⟨rfl, fun h => absurd rfl h, fun _ => rfl⟩
  · have e8 : row0 8 = 0 := by decide +kernel
    refine ⟨?_, fun k k0 k1 => ?_⟩
    · rw [show (7 : Nat) = 7 + 0 from rfl, g0_7 (o := 0) (by omega), e8]
      rfl
    · omega
  · refine ⟨?_, ?_, ?_, ?_, ?_, ?_⟩
    all_goals (rw [show (7 : Nat) = 7 + 0 from rfl, g0_7 (o := 0) (by omega)]; decide +kernel)
  · rw [show (7 : Nat) = 7 + 0 from rfl, g0_7 (o := 0) (by omega)]
    decide +kernel
  · have e6 : row0 6 = 0 := by decide +kernel
    omega
theorem Big_0 : Big 0 mem0 := by
  have g2 : q_g mem0 2 1 = 0 := by rw [g0_st (by omega) (by omega)]; decide +kernel
  have g71 : q_g mem0 71 1 = 0 := by rw [g0_st (by omega) (by omega)]; decide +kernel
  have g712 : q_g mem0 71 2 = 0 := by rw [g0_st (by omega) (by omega)]; decide +kernel
  have g14 : q_g mem0 1 4 = 0 := by rw [g0_st (by omega) (by omega)]; decide +kernel
  unfold Big
  rw [g0_286, g2, g71, g712, g14]
  refine ⟨⟨RB_0, Inv_0, Or.inl ⟨by decide +kernel, g0_m1 (by omega) (by omega)⟩⟩, ⟨?_, by omega, by omega, fun k k0 k1 => by omega⟩, ?_, ⟨?_, by omega, by omega, by omega, by omega, fun j j0 j1 => by omega⟩, ?_, Or.inl rfl, fun h => absurd h (by omega)⟩
  · rw [g0_st (by omega) (by omega)]
    decide +kernel
  · rw [g0_m1 (by omega) (by omega), g0_m1 (by omega) (by omega)]
  · rw [g0_st (by omega) (by omega)]
    decide +kernel
  · rw [g0_st (by omega) (by omega)]
    decide +kernel
