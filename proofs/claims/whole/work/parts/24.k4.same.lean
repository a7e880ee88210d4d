/-! what the check says: the heap behind the constructors is the one that the equations speak of -/
theorem cs_ex {r1 : Option (ex_R × ex_H)} {r2 : ex_H → Option (ex_R × ex_H)} (h : cs_of r1 r2 = true) : ∃ h1 h2 : ex_H, r1 = some (.inl none, h1) ∧ h1.1.1 = true ∧ h1.1.2.1 = 284 ∧ r2 h1 = some (.inl none, h2) ∧ cs_hk h2 = true := by
  unfold cs_of at h
  split at h
  · rename_i h1
    simp only [Bool.and_eq_true, decide_eq_true_eq] at h
    obtain ⟨⟨a, b⟩, c⟩ := h
    split at c
    · rename_i h2 e2
      exact ⟨h1, h2, rfl, a, b, e2, c⟩
    · cases c
  · cases h
theorem cs_all_of {p : Nat → Bool} {n : Nat} (h : cs_all p n = true) {j : Nat} (hj : j < n) : p j = true := by
  unfold cs_all at h
  have h1 := List.all_eq_true.mp h (j / 64) (List.mem_range.mpr (by omega))
  have h2 := List.all_eq_true.mp h1 (j % 64) (List.mem_range.mpr (by omega))
  rw [show 64 * (j / 64) + j % 64 = j by omega, Bool.or_eq_true] at h2
  rcases h2 with h3 | h3
  · exact absurd (of_decide_eq_true h3) (by omega)
  · exact h3
theorem cs_ar_of {k : Nat} (h : cs_ar k = true) : k ≠ 1 ∧ k ≠ 2 ∧ k ≠ 49 ∧ k ≠ 55 ∧ k ≠ 61 ∧ k ≠ 68 ∧ k ≠ 242 ∧ k ≠ 285 ∧ off0 k ≠ 0 := by
  unfold cs_ar at h
  simp only [Bool.not_eq_true', Bool.or_eq_false_iff, decide_eq_false_iff_not] at h
  obtain ⟨⟨⟨⟨⟨⟨⟨⟨a, b⟩, c⟩, d⟩, e⟩, f⟩, g⟩, i⟩, j⟩ := h
  exact ⟨a, b, c, d, e, f, g, i, j⟩
theorem mem0_hi {k j : Nat} (h : cs_ar k = true) (hj : cs_nd k ≤ j) : mem0 k (j : Int) = 0 := by
  obtain ⟨a1, a2, a3, a4, a5, a6, a7, a8, a9⟩ := cs_ar_of h
  unfold cs_nd at hj
  unfold mem0
  by_cases e : k = 286
  · rw [if_pos e] at hj ⊢
    have q : row0 (j : Int) = 0 := by
      unfold row0
      repeat' split
      all_goals omega
    rw [q]
    rfl
  · rw [if_neg e] at hj ⊢
    rw [if_neg (by omega)]
    have q : st0 (off0 k) (j : Int) = 0 := by
      unfold st0
      repeat' split
      all_goals (first | rfl | (split at hj <;> omega))
    rw [q]
    rfl
theorem mem0_z {k j : Nat} (h : cs_ar k = true) (hz : cs_nz k = false) : mem0 k (j : Int) = 0 := by
  obtain ⟨a1, a2, a3, a4, a5, a6, a7, a8, a9⟩ := cs_ar_of h
  unfold cs_nz at hz
  simp only [Bool.or_eq_false_iff, decide_eq_false_iff_not] at hz
  obtain ⟨⟨⟨⟨⟨b1, b2⟩, b3⟩, b4⟩, b5⟩, b6⟩ := hz
  unfold mem0
  rw [if_neg b1, if_neg (by omega)]
  have q : st0 (off0 k) (j : Int) = 0 := by
    unfold st0
    rw [if_neg a9, if_neg b2, if_neg b3, if_neg b4, if_neg (by omega)]
  rw [q]
  rfl
theorem cs_fs_of (b : Nat → Int32) : ∀ (vs : List Value) (j : Nat) (fs : List (Option Nat)), cs_fs b j vs fs = true → vs = hp_f b j fs
  | [], _, [], _ => rfl
  | [], _, none :: _, h => by simp [cs_fs] at h
  | [], _, some _ :: _, h => by simp [cs_fs] at h
  | v :: r, j, [], h => by cases v <;> simp [cs_fs] at h
  | v :: r, j, none :: s, h => by
    cases v <;> simp [cs_fs] at h
    rw [cs_fs_of b r (j + 1) s h.2, h.1]
    rfl
  | v :: r, j, some a :: s, h => by
    cases v <;> simp [cs_fs] at h
    rw [cs_fs_of b r (j + 1) s h.2, h.1]
    rfl
theorem cs_cell {h : ex_H} {k : Nat} (hJ : fz_J h) (hk : cs_ce k (h.2 k) = true) : ∃ e, ly_at k = some e ∧ h.2 k = some (hp_c (fun k j => mem0 k (j : Int)) (fun k j => mem0 k (j : Int)) k e) := by
  have hQ := hJ.2.2 k
  revert hk hQ
  generalize h.2 k = q
  intro hk hQ
  unfold cs_ce at hk
  split at hk
  · rename_i ty n f ty' n' hl
    simp only [Bool.and_eq_true, decide_eq_true_eq] at hk
    obtain ⟨⟨⟨e1, e2⟩, e3⟩, e4⟩ := hk
    subst e1 e2
    have hf : f = fun j : Nat => mem0 k (j : Int) := by
      funext j
      have hz : n ≤ j → f j = 0 := (hQ _ rfl).1 _ _ _ rfl j
      split at e4
      · simp only [Bool.and_eq_true, decide_eq_true_eq] at e4
        by_cases hj : j < n
        · exact of_decide_eq_true (cs_all_of e4.2 hj)
        · rw [hz (by omega), mem0_hi e3 (by have := e4.1; omega)]
      · rename_i hnz
        rw [mem0_z e3 (by simpa using hnz)]
        by_cases hj : j < n
        · exact of_decide_eq_true (cs_all_of e4 hj)
        · exact hz (by omega)
    refine ⟨_, hl, ?_⟩
    rw [hf]
    rfl
  · rename_i ci vs ci' fs hl
    simp only [Bool.and_eq_true, decide_eq_true_eq] at hk
    obtain ⟨e1, e2⟩ := hk
    subst e1
    refine ⟨_, hl, ?_⟩
    rw [cs_fs_of _ _ _ _ e2]
    rfl
  · cases hk
theorem cs_ref {h : ex_H} {k : Nat} {C : String} {l : List Nat} (hJ : fz_J h) (hk : cs_ra C l (h.2 k) = true) : h.2 k = some (.inl (.object C, l.length, .inr (.inr (.inr (.inr (fun j => l[j]?)))))) := by
  have hQ := hJ.2.2 k
  revert hk hQ
  generalize h.2 k = q
  intro hk hQ
  unfold cs_ra at hk
  split at hk
  · rename_i D n f
    simp only [Bool.and_eq_true, decide_eq_true_eq] at hk
    obtain ⟨⟨e1, e2⟩, e3⟩ := hk
    subst e1 e2
    have hf : f = fun j => l[j]? := by
      funext j
      by_cases hj : j < l.length
      · exact of_decide_eq_true (List.all_eq_true.mp e3 j (List.mem_range.mpr hj))
      · rw [(hQ _ rfl).2 _ _ _ rfl j (by omega), List.getElem?_eq_none (by omega)]
    rw [hf]
  · cases hk
theorem ly_none {k : Nat} (h : 312 < k) : ly_at k = none := by
  by_cases g : k < 320
  · have : k = 313 ∨ k = 314 ∨ k = 315 ∨ k = 316 ∨ k = 317 ∨ k = 318 ∨ k = 319 := by omega
    rcases this with e | e | e | e | e | e | e
    all_goals (subst e; rfl)
  · unfold ly_at
    rw [List.getElem?_eq_none (show ly.length ≤ k / 16 by show 20 ≤ k / 16; omega)]
theorem cs_heap {h : ex_H} (hJ : fz_J h) (hk : cs_hk h = true) (L : Nat) (xs : Nat → Int32) : fz_ (.inl (.int, L, .inl xs)) (ex_add h 1 (.inl (.long, 1, .inr (.inl (fun _ => 0))))) = hp L xs (fun k j => mem0 k (j : Int)) (fun k j => mem0 k (j : Int)) (fun _ => 0) (true, 312, h.1.2.2 + 1) := by
  unfold cs_hk at hk
  simp only [Bool.and_eq_true, decide_eq_true_eq] at hk
  obtain ⟨⟨⟨⟨⟨h1, h2⟩, -⟩, h4⟩, h5⟩, h6⟩ := hk
  refine Prod.ext ?_ (funext fun k => ?_)
  · show (h.1.1, h.1.2.1 + 1, h.1.2.2 + 1) = (true, 312, h.1.2.2 + 1)
    rw [h1, h2]
  show (if k = 0 then some _ else if k = h.1.2.1 + 1 then some _ else h.2 k) = hp_g L xs _ _ _ k
  rw [h2]
  unfold hp_g
  by_cases e0 : k = 0
  · rw [if_pos e0, if_pos e0]
  rw [if_neg e0, if_neg e0]
  by_cases e1 : k = 312
  · rw [if_pos (by omega), if_pos e1]
  rw [if_neg (by omega), if_neg e1]
  by_cases e2 : k = 72
  · rw [if_pos e2, e2]
    exact cs_ref hJ h4
  rw [if_neg e2]
  by_cases e3 : k = 264
  · rw [if_pos e3, e3]
    exact cs_ref hJ h5
  rw [if_neg e3]
  by_cases g : k ≤ 311
  · have q := List.all_eq_true.mp h6 (k - 1) (List.mem_range.mpr (by omega))
    rw [show k - 1 + 1 = k by omega, Bool.or_eq_true, Bool.or_eq_true] at q
    rcases q with (q | q) | q
    · exact absurd (of_decide_eq_true q) e2
    · exact absurd (of_decide_eq_true q) e3
    · obtain ⟨e, q1, q2⟩ := cs_cell hJ q
      rw [q1, q2]
  · rw [hJ.2.1 k (by omega), ly_none (by omega)]
section CS
variable {d mi pc nx a b : Nat} {v : Int32} {tl : List Nat} {l st : List Value} {h h1 : ex_H}
theorem cs_eq {o : ex_O} (hT : ex_T0 mi pc = some o) : EV d mi pc l st h = ex_do2 ex_M0 EV EV o d mi l st h := by
  have q := ex_lim_eq ex_M0 ex_T0 d mi pc l st h
  rw [hT] at q
  exact q
theorem cs_new (hT : ex_T0 mi pc = some (34, nx, a, b, v, tl)) (hh : h.1.1 = true) : EV d mi pc l st h = EV d mi nx l (.ref (h.1.2.1 + 1) :: st) (ex_add h b (cs_n a tl)) := by
  rw [cs_eq hT]
  show (if h.1.1 = true then EV d mi nx l (.ref (h.1.2.1 + 1) :: st) (ex_add h b (cs_n a tl)) else none) = _
  rw [if_pos hh]
theorem cs_dup {x : Nat} (hT : ex_T0 mi pc = some (35, nx, a, b, v, tl)) : EV d mi pc l (.ref x :: st) h = EV d mi nx l (.ref x :: .ref x :: st) h := by
  rw [cs_eq hT]
  rfl
theorem cs_ini {x y c d' : Nat} {me : ex_Me} (hd : d' = d + 1) (hT : ex_T0 mi pc = some (47, nx, a, 1, v, [c, 1])) (hM : ex_M0 a = some me) (hl : me.2.2.1 = 2) (hr : EV d a 0 (ex_pad 2 [.ref x]) [] h = some (.inl none, h1)) : EV d' mi pc l [.ref x, .ref y] h = EV d' mi nx l [.ref y] h1 := by
  subst hd
  rw [cs_eq hT]
  show ex_call2 ex_M0 EV EV nx a 1 [c, 1] (d + 1) mi l [.ref x, .ref y] h = _
  unfold ex_call2
  rw [if_neg (by simp), if_neg (show ¬ 8 < ex_wd (List.drop 1 [Value.ref x, Value.ref y]) from (by omega : ¬ 8 < 1)), if_pos (show (List.take 1 [Value.ref x, Value.ref y]).all ex_one = true from rfl), hM]
  dsimp only
  rw [if_neg (by omega), if_neg (show ¬ ex_rc h ([c, 1].getD 1 0) (List.take 1 [Value.ref x, Value.ref y]).reverse = false from (by decide : ¬ true = false)), hl]
  show ex_back EV (d + 1) mi nx l [.ref y] [] (EV d a 0 (ex_pad 2 [.ref x]) [] h) = _
  rw [hr]
  rfl
theorem cs_ast {x : Nat} (hT : ex_T0 mi pc = some (11, nx, a, b, v, tl)) : EV d mi pc l (.ref x :: st) h = EV d mi nx (l.set a (.ref x)) st h := by
  rw [cs_eq hT]
  rfl
theorem cs_con (hT : ex_T0 mi pc = some (0, nx, a, b, v, tl)) : EV d mi pc l st h = EV d mi nx l (.int v :: st) h := by
  rw [cs_eq hT]
  rfl
theorem cs_ist {x : Int32} (hT : ex_T0 mi pc = some (10, nx, a, b, v, tl)) : EV d mi pc l (.int x :: st) h = EV d mi nx (l.set a (.int x)) st h := by
  rw [cs_eq hT]
  rfl
theorem cs_lng (hT : ex_T0 mi pc = some (32, nx, 2, b, v, tl)) (hh : h.1.1 = true) : EV d mi pc l (.int 1 :: st) h = EV d mi nx l (.ref (h.1.2.1 + 1) :: st) (ex_add h 1 (.inl (.long, 1, .inr (.inl (fun _ => 0))))) := by
  rw [cs_eq hT]
  show (if h.1.1 = true then if (1 : Int32) < 0 then none else if 100000 < (1 : Int32).toNatClampNeg then none else EV d mi nx l (.ref (h.1.2.1 + 1) :: st) (ex_add h (1 : Int32).toNatClampNeg (.inl (.long, (1 : Int32).toNatClampNeg, .inr (.inl (fun _ => 0))))) else none) = _
  rw [if_pos hh, if_neg (by decide), if_neg (by decide), show (1 : Int32).toNatClampNeg = 1 by decide]
end CS
theorem cs_J0 : fz_J cs_h0 := ⟨rfl, fun _ _ => rfl, fun _ _ e => by cases e⟩
theorem cs_J1 : fz_J cs_h1 := fz_Jadd cs_J0 fz_Qo
set_option maxRecDepth 100000 in
/-- the law's run up to its loop -/
theorem cs_run : ∃ c0 : Bool × Nat × Nat, c0.2.1 = 312 ∧ c0.2.2 ≤ 4000000 ∧ ∀ (L : Nat) (xs : Nat → Int32), EV 100 0 0 (ex_pad 7 [.ref 0]) [] (fz_ (.inl (.int, L, .inl xs)) cs_h0) = EV 100 0 23 [.ref 0, .ref 1, .ref 285, .ref 312, .int 0, .null, .null] [] (hp L xs (fun k j => mem0 k (j : Int)) (fun k j => mem0 k (j : Int)) (fun _ => 0) c0) := by
  obtain ⟨h1, h2, e1, a1, a2, e2, hk⟩ := cs_ex cs_ok_t
  obtain ⟨J1, r1⟩ := fz_ev ex_M0 ex_T0 2000 99 135 0 (ex_pad 2 [.ref 1]) [] cs_h1 h1 (.inl none) cs_J1 e1
  obtain ⟨J2, r2⟩ := fz_ev ex_M0 ex_T0 2000 99 212 0 (ex_pad 2 [.ref 285]) [] (ex_add h1 46 (cs_n 12 cs_t12)) h2 (.inl none) (fz_Jadd J1 fz_Qo) e2
  have hk' := hk
  unfold cs_hk at hk'
  simp only [Bool.and_eq_true, decide_eq_true_eq] at hk'
  obtain ⟨⟨⟨⟨⟨b1, b2⟩, b3⟩, -⟩, -⟩, -⟩ := hk'
  refine ⟨(true, 312, h2.1.2.2 + 1), rfl, ?_, fun L xs => ?_⟩
  · show h2.1.2.2 + 1 ≤ 4000000
    omega
  have s1 := (ex_lim_iff ex_M0 ex_T0).mpr ⟨2000, r1 (.inl (.int, L, .inl xs))⟩
  have s2 := (ex_lim_iff ex_M0 ex_T0).mpr ⟨2000, r2 (.inl (.int, L, .inl xs))⟩
  rw [← cs_heap J2 hk L xs, ← fz_add]
  rw [cs_new (nx := 3) (a := 11) (b := 20) (v := 0) (tl := cs_t11) rfl rfl, fz_add]
  rw [show (fz_ (.inl (.int, L, .inl xs)) cs_h0).1.2.1 + 1 = 1 from rfl, show ex_add cs_h0 20 (cs_n 11 cs_t11) = cs_h1 from rfl]
  rw [cs_dup (nx := 4) (a := 0) (b := 0) (v := 0) (tl := []) rfl]
  rw [cs_ini (d := 99) rfl (nx := 7) (a := 135) (v := 4) (c := 123) (me := me_135) rfl rfl rfl s1]
  rw [cs_ast (nx := 8) (a := 1) (b := 0) (v := 0) (tl := []) rfl]
  rw [cs_new (nx := 11) (a := 12) (b := 46) (v := 0) (tl := cs_t12) (h := fz_ (.inl (.int, L, .inl xs)) h1) rfl a1, fz_add]
  rw [show (fz_ (.inl (.int, L, .inl xs)) h1).1.2.1 + 1 = 285 from congrArg (· + 1) a2]
  rw [cs_dup (nx := 12) (a := 0) (b := 0) (v := 0) (tl := []) rfl]
  rw [cs_ini (d := 99) rfl (nx := 15) (a := 212) (v := 4) (c := 126) (me := me_212) rfl rfl rfl s2]
  rw [cs_ast (nx := 16) (a := 2) (b := 0) (v := 0) (tl := []) rfl]
  rw [cs_con (nx := 17) (a := 0) (b := 0) (v := 1) (tl := []) rfl]
  rw [cs_lng (nx := 19) (b := 0) (v := 0) (tl := []) (h := fz_ (.inl (.int, L, .inl xs)) h2) rfl b1]
  rw [show (fz_ (.inl (.int, L, .inl xs)) h2).1.2.1 + 1 = 312 from congrArg (· + 1) b2]
  rw [cs_ast (nx := 20) (a := 3) (b := 0) (v := 0) (tl := []) rfl]
  rw [cs_con (nx := 21) (a := 0) (b := 0) (v := 0) (tl := []) rfl]
  rw [cs_ist (nx := 23) (a := 4) (b := 0) (v := 0) (tl := []) rfl]
  rfl
