/-! WHOLE NUMBERS instead of ints: what the evaluator does, said of Int; the heap's numbers by one table s (cell, index) -/
def q_I (x : Int) : Int32 := Int32.ofInt x
/-- as an int has it -/
def q_sg (x : Int) : Int := (q_I x).toInt
def q_g (s : Nat → Int → Int32) (k : Nat) (z : Int) : Int := (s k z).toInt
def q_u (s : Nat → Int → Int32) (k : Nat) (z v : Int) : Nat → Int → Int32 := fun k' z' => if k' = k ∧ z' = z then q_I v else s k' z'
/-- cells copied -/
def q_cp (s : Nat → Int → Int32) (k1 : Nat) (a : Int) (k2 : Nat) (b n : Int) : Nat → Int → Int32 := fun k z => if k = k2 ∧ b ≤ z ∧ z < b + n then s k1 (z - b + a) else s k z
def q_a (s : Nat → Int → Int32) : Nat → Nat → Int32 := fun k j => s k (j : Int)
def q_h (L : Nat) (xs : Nat → Int32) (s : Nat → Int → Int32) (O : Nat → Int64) (c : Bool × Nat × Nat) : ex_H := hp L xs (q_a s) (q_a s) O c
def q_th (c : Bool × Nat × Nat) : Bool × Nat × Nat := (false, c.2.1 + 1, c.2.2 + 6)
def q_and (x y : Int) : Int := (q_I x &&& q_I y).toInt
def q_or (x y : Int) : Int := (q_I x ||| q_I y).toInt
def q_xor (x y : Int) : Int := (q_I x ^^^ q_I y).toInt
def q_shl (x y : Int) : Int := (q_I x <<< (q_I y &&& 31)).toInt
def q_shr (x y : Int) : Int := (q_I x >>> (q_I y &&& 31)).toInt
def q_ushr (x y : Int) : Int := (((q_I x).toUInt32 >>> ((q_I y).toUInt32 &&& Int32.toUInt32 31)).toInt32).toInt
def q_dv (x y : Int) : Int := (q_sg x).tdiv (q_sg y)
def q_rm (x y : Int) : Int := (q_sg x).tmod (q_sg y)
def q_lc (x y : Int64) : Int := (lg_cmp x y).toInt
def q_xs (xs : Nat → Int32) (z : Int) : Int := (xs z.toNat).toInt
theorem q_It (w : Int32) : q_I w.toInt = w := Int32.ofInt_toInt w
theorem q_I_add (x y : Int) : q_I x + q_I y = q_I (x + y) := by
  refine Int32.toInt_inj.mp ?_
  unfold q_I
  simp [Int32.toInt_add]
theorem q_I_sub (x y : Int) : q_I x - q_I y = q_I (x - y) := by
  refine Int32.toInt_inj.mp ?_
  unfold q_I
  simp [Int32.toInt_sub]
theorem q_I_mul (x y : Int) : q_I x * q_I y = q_I (x * y) := by
  refine Int32.toInt_inj.mp ?_
  unfold q_I
  simp [Int32.toInt_mul]
theorem q_I_neg (x : Int) : - q_I x = q_I (-x) := by
  refine Int32.toInt_inj.mp ?_
  unfold q_I
  simp [Int32.toInt_neg]
theorem q_I_and (x y : Int) : q_I x &&& q_I y = q_I (q_and x y) := (q_It _).symm
theorem q_I_or (x y : Int) : q_I x ||| q_I y = q_I (q_or x y) := (q_It _).symm
theorem q_I_xor (x y : Int) : q_I x ^^^ q_I y = q_I (q_xor x y) := (q_It _).symm
theorem q_I_shl (x y : Int) : q_I x <<< (q_I y &&& 31) = q_I (q_shl x y) := (q_It _).symm
theorem q_I_shr (x y : Int) : q_I x >>> (q_I y &&& 31) = q_I (q_shr x y) := (q_It _).symm
theorem q_I_ushr (x y : Int) : ((q_I x).toUInt32 >>> ((q_I y).toUInt32 &&& Int32.toUInt32 31)).toInt32 = q_I (q_ushr x y) := (q_It _).symm
theorem q_I_lc (x y : Int64) : lg_cmp x y = q_I (q_lc x y) := (q_It _).symm
theorem q_sg_id {x : Int} (h1 : -2147483648 ≤ x) (h2 : x < 2147483648) : q_sg x = x := Int32.toInt_ofInt_of_le h1 h2
theorem q_sg_rg (x : Int) : -2147483648 ≤ q_sg x ∧ q_sg x < 2147483648 := ⟨Int32.le_toInt _, Int32.toInt_lt _⟩
theorem q_g_rg (s : Nat → Int → Int32) (k : Nat) (z : Int) : -2147483648 ≤ q_g s k z ∧ q_g s k z < 2147483648 := ⟨Int32.le_toInt _, Int32.toInt_lt _⟩
theorem q_sg_g (s : Nat → Int → Int32) (k : Nat) (z : Int) : q_sg (q_g s k z) = q_g s k z := by unfold q_sg q_g; rw [q_It]
theorem q_sg_sg (x : Int) : q_sg (q_sg x) = q_sg x := q_sg_id (q_sg_rg x).1 (q_sg_rg x).2
theorem q_sgI (x : Int) : (q_I x).toInt = q_sg x := rfl
theorem q_I_sg (x : Int) : q_I (q_sg x) = q_I x := q_It _
theorem q_I_g (s : Nat → Int → Int32) (k : Nat) (z : Int) : q_I (q_g s k z) = s k z := q_It _
theorem q_I_inj {x y : Int} : q_I x = q_I y ↔ q_sg x = q_sg y := Int32.toInt_inj.symm
theorem q_sg_xs (xs : Nat → Int32) (z : Int) : q_sg (q_xs xs z) = q_xs xs z := by unfold q_sg q_xs; rw [q_It]
theorem q_a_eq (s : Nat → Int → Int32) (k j : Nat) : q_a s k j = q_I (q_g s k (j : Int)) := (q_It _).symm
theorem q_fold (L : Nat) (xs : Nat → Int32) (s : Nat → Int → Int32) (O : Nat → Int64) (c : Bool × Nat × Nat) : hp L xs (q_a s) (q_a s) O c = q_h L xs s O c := rfl
/-! reading what was written -/
theorem q_gu (s : Nat → Int → Int32) (k : Nat) (z v : Int) (k' : Nat) (z' : Int) : q_g (q_u s k z v) k' z' = if k' = k ∧ z' = z then q_sg v else q_g s k' z' := by
  unfold q_g q_u
  split <;> rfl
theorem q_gu_ne {s : Nat → Int → Int32} {k : Nat} {z v : Int} {k' : Nat} {z' : Int} (h : ¬ (k' = k ∧ z' = z)) : q_g (q_u s k z v) k' z' = q_g s k' z' := by
  rw [q_gu, if_neg h]
theorem q_gu_eq {s : Nat → Int → Int32} {k : Nat} {z v : Int} {z' : Int} (h : z' = z) : q_g (q_u s k z v) k z' = q_sg v := by
  rw [q_gu, if_pos ⟨rfl, h⟩]
/-! the branches -/
section BR
variable {α : Type} {x y : Int32} {X Y : Int} {a b a' b' : α}
theorem q_k0 (hx : x.toInt = X) (hy : y.toInt = Y) (ha : a = a') (hb : b = b') : (if ex_cmp 0 x y = true then a else b) = if X = Y then a' else b' := by
  have e : (ex_cmp 0 x y = true) ↔ X = Y := by
    show (decide (x = y)) = true ↔ _
    exact by rw [decide_eq_true_iff, ← hx, ← hy, Int32.toInt_inj]
  subst ha hb
  by_cases h : X = Y
  · rw [if_pos h, if_pos (e.mpr h)]
  · rw [if_neg h, if_neg (fun q => h (e.mp q))]
theorem q_k1 (hx : x.toInt = X) (hy : y.toInt = Y) (ha : a = a') (hb : b = b') : (if ex_cmp 1 x y = true then a else b) = if X ≠ Y then a' else b' := by
  have e : (ex_cmp 1 x y = true) ↔ X ≠ Y := by
    show ((!decide (x = y))) = true ↔ _
    exact by rw [← hx, ← hy]; simp only [Bool.not_eq_true', decide_eq_false_iff_not, ne_eq, Int32.toInt_inj]
  subst ha hb
  by_cases h : X ≠ Y
  · rw [if_pos h, if_pos (e.mpr h)]
  · rw [if_neg h, if_neg (fun q => h (e.mp q))]
theorem q_k2 (hx : x.toInt = X) (hy : y.toInt = Y) (ha : a = a') (hb : b = b') : (if ex_cmp 2 x y = true then a else b) = if X < Y then a' else b' := by
  have e : (ex_cmp 2 x y = true) ↔ X < Y := by
    show (decide (x < y)) = true ↔ _
    exact by rw [decide_eq_true_iff, ← hx, ← hy, Int32.lt_iff_toInt_lt]
  subst ha hb
  by_cases h : X < Y
  · rw [if_pos h, if_pos (e.mpr h)]
  · rw [if_neg h, if_neg (fun q => h (e.mp q))]
theorem q_k3 (hx : x.toInt = X) (hy : y.toInt = Y) (ha : a = a') (hb : b = b') : (if ex_cmp 3 x y = true then a else b) = if Y ≤ X then a' else b' := by
  have e : (ex_cmp 3 x y = true) ↔ Y ≤ X := by
    show (decide (y ≤ x)) = true ↔ _
    exact by rw [decide_eq_true_iff, ← hx, ← hy, Int32.le_iff_toInt_le]
  subst ha hb
  by_cases h : Y ≤ X
  · rw [if_pos h, if_pos (e.mpr h)]
  · rw [if_neg h, if_neg (fun q => h (e.mp q))]
theorem q_k4 (hx : x.toInt = X) (hy : y.toInt = Y) (ha : a = a') (hb : b = b') : (if ex_cmp 4 x y = true then a else b) = if Y < X then a' else b' := by
  have e : (ex_cmp 4 x y = true) ↔ Y < X := by
    show (decide (y < x)) = true ↔ _
    exact by rw [decide_eq_true_iff, ← hx, ← hy, Int32.lt_iff_toInt_lt]
  subst ha hb
  by_cases h : Y < X
  · rw [if_pos h, if_pos (e.mpr h)]
  · rw [if_neg h, if_neg (fun q => h (e.mp q))]
theorem q_k5 (hx : x.toInt = X) (hy : y.toInt = Y) (ha : a = a') (hb : b = b') : (if ex_cmp 5 x y = true then a else b) = if X ≤ Y then a' else b' := by
  have e : (ex_cmp 5 x y = true) ↔ X ≤ Y := by
    show (decide (x ≤ y)) = true ↔ _
    exact by rw [decide_eq_true_iff, ← hx, ← hy, Int32.le_iff_toInt_le]
  subst ha hb
  by_cases h : X ≤ Y
  · rw [if_pos h, if_pos (e.mpr h)]
  · rw [if_neg h, if_neg (fun q => h (e.mp q))]
end BR
theorem q_tdiv (x y : Int) : q_I x / q_I y = q_I (q_dv x y) := by
  refine Int32.toInt_inj.mp ?_
  rw [Int32.toInt_div]
  exact (Int32.toInt_ofInt).symm
theorem q_b3 {x y : Int} (h : q_sg y ≠ 0) : ex_bin 3 (q_I x) (q_I y) = some (q_I (q_dv x y)) := by
  have h2 : ¬ q_I y = 0 := fun e => h (by unfold q_sg; rw [e]; rfl)
  show (if q_I y = 0 then none else some (q_I x / q_I y)) = _
  rw [if_neg h2, q_tdiv]
theorem q_b4 {x y : Int} (h : q_sg y ≠ 0) : ex_bin 4 (q_I x) (q_I y) = some (q_I (q_rm x y)) := by
  have h2 : ¬ q_I y = 0 := fun e => h (by unfold q_sg; rw [e]; rfl)
  show (if q_I y = 0 then none else some (q_I x - q_I x / q_I y * q_I y)) = _
  rw [if_neg h2, q_tdiv, ← q_I_sg x, ← q_I_sg y, q_I_mul, q_I_sub]
  refine congrArg some (congrArg q_I ?_)
  unfold q_rm q_dv
  rw [Int.tmod_def, Int.mul_comm]
section HPX
variable {L : Nat} {xs : Nat → Int32} {s : Nat → Int → Int32} {O : Nat → Int64} {c : Bool × Nat × Nat}
theorem q_hp_congr {A B A' B' : Nat → Nat → Int32} (hA : ∀ k ty n, ly_at k = some (.inl (ty, n)) → A k = A' k) (hB : ∀ k ci fs, ly_at k = some (.inr (ci, fs)) → B k = B' k) : hp L xs A B O c = hp L xs A' B' O c := by
  unfold hp
  refine Prod.ext rfl (funext fun j => ?_)
  dsimp only
  unfold hp_g
  split
  · rfl
  split
  · rfl
  split
  · rfl
  split
  · rfl
  split
  · rename_i x hx
    rcases x with ⟨ty, n⟩ | ⟨ci, fs⟩
    · simp only [hp_c]; rw [hA _ _ _ hx]
    · simp only [hp_c]; rw [hB _ _ _ hx]
  · rfl
theorem q_at {k : Nat} {ty : FieldType} {n : Nat} (hk : ly_A k n ty) : (q_h L xs s O c).2 k = some (.inl (ty, n, .inl (q_a s k))) := by
  obtain ⟨h1, h2, h3, h4, h5⟩ := hk
  show hp_g L xs (q_a s) (q_a s) O k = _
  unfold hp_g
  rw [if_neg h2, if_neg h3, if_neg h4, if_neg h5, h1]
  rfl
theorem q_clamp {z : Int} {n : Nat} (h0 : 0 ≤ z) (h1 : z < n) (hn : n < 2147483648) : ¬ q_I z < 0 ∧ (q_I z).toNatClampNeg = z.toNat ∧ ¬ n ≤ z.toNat := by
  have e : (q_I z).toInt = z := q_sg_id (by omega) (by omega)
  refine ⟨?_, ?_, by omega⟩
  · rw [Int32.lt_iff_toInt_lt, e]
    show ¬ z < 0
    omega
  · show (q_I z).toInt.toNat = _
    rw [e]
theorem q_ld {k n : Nat} {z : Int} (hk : ly_A k n .int) (h0 : 0 ≤ z) (h1 : z < n) (hn : n < 2147483648) : ex_ild (q_h L xs s O c) k (q_I z) = some (q_I (q_g s k z)) := by
  obtain ⟨a1, a2, a3⟩ := q_clamp h0 h1 hn
  unfold ex_ild
  rw [q_at hk]
  dsimp only
  rw [if_neg a1, a2, if_neg a3]
  show some (s k ((z.toNat : Nat) : Int)) = _
  rw [q_I_g, Int.toNat_of_nonneg h0]
theorem q_zd {k n : Nat} {z : Int} (hk : ly_A k n .boolean) (h0 : 0 ≤ z) (h1 : z < n) (hn : n < 2147483648) : ex_zld (q_h L xs s O c) k (q_I z) = some (q_I (q_g s k z)) := by
  obtain ⟨a1, a2, a3⟩ := q_clamp h0 h1 hn
  unfold ex_zld
  rw [q_at hk]
  dsimp only
  rw [if_neg hk.2.1, if_neg a1, a2, if_neg a3]
  show some (s k ((z.toNat : Nat) : Int)) = _
  rw [q_I_g, Int.toNat_of_nonneg h0]
theorem q_setA {k n : Nat} {ty : FieldType} {z v : Int} (hk : ly_A k n ty) (h0 : 0 ≤ z) : ex_set (q_h L xs s O c) k (.inl (ty, n, .inl (upd (q_a s k) z.toNat (q_I v)))) = q_h L xs (q_u s k z v) O c := by
  unfold q_h
  rw [hp_setA hk]
  refine q_hp_congr (fun j ty2 n2 hj => ?_) (fun j ci fs hj => ?_)
  · by_cases e : j = k
    · subst e
      simp only [up1, if_true]
      funext i
      unfold upd q_a q_u
      by_cases ei : i = z.toNat
      · rw [if_pos ei, if_pos ⟨rfl, by omega⟩]
      · rw [if_neg ei, if_neg (fun h => ei (by omega))]
    · simp only [up1, if_neg e]
      funext i
      unfold q_a q_u
      rw [if_neg (fun h => e h.1)]
  · funext i
    unfold q_a q_u
    rw [if_neg]
    rintro ⟨e, -⟩
    subst e
    rw [hk.1] at hj
    cases hj
theorem q_st {k n : Nat} {z v : Int} (hk : ly_A k n .int) (h0 : 0 ≤ z) (h1 : z < n) (hn : n < 2147483648) : ex_ist (q_h L xs s O c) k (q_I z) (q_I v) = some (q_h L xs (q_u s k z v) O c) := by
  obtain ⟨a1, a2, a3⟩ := q_clamp h0 h1 hn
  unfold ex_ist
  rw [q_at hk]
  dsimp only
  rw [if_neg hk.2.1, if_neg a1, a2, if_neg a3, q_setA hk h0]
theorem q_zt {k n : Nat} {z v : Int} (hk : ly_A k n .boolean) (h0 : 0 ≤ z) (h1 : z < n) (hn : n < 2147483648) (hv : v = 0 ∨ v = 1) : ex_zst (q_h L xs s O c) k (q_I z) (q_I v) = some (q_h L xs (q_u s k z v) O c) := by
  obtain ⟨a1, a2, a3⟩ := q_clamp h0 h1 hn
  unfold ex_zst
  rw [q_at hk]
  dsimp only
  rw [if_neg hk.2.1, if_neg a1, a2, if_neg a3, show q_I v &&& 1 = q_I v by rcases hv with e | e <;> subst e <;> decide, q_setA hk h0]
theorem q_setB {k ci j : Nat} {fs : List (Option Nat)} {v : Int} (hk : ly_B k ci fs) : hp L xs (q_a s) (up1 (q_a s) k (up1 (q_a s k) j (q_I v))) O c = q_h L xs (q_u s k (j : Int) v) O c := by
  refine q_hp_congr (fun i ty n hi => ?_) (fun i ci2 fs2 hi => ?_)
  · funext q
    unfold q_a q_u
    rw [if_neg]
    rintro ⟨e, -⟩
    subst e
    rw [hk.1] at hi
    cases hi
  · by_cases e : i = k
    · subst e
      simp only [up1, if_true]
      funext q
      unfold q_a q_u up1
      by_cases eq : q = j
      · rw [if_pos eq, if_pos ⟨rfl, by omega⟩]
      · rw [if_neg eq, if_neg (fun h => eq (by omega))]
    · simp only [up1, if_neg e]
      funext q
      unfold q_a q_u
      rw [if_neg (fun h => e h.1)]
theorem q_atB {k ci : Nat} {fs : List (Option Nat)} (hk : ly_B k ci fs) : (q_h L xs s O c).2 k = some (.inr (ci, hp_f (q_a s k) 0 fs)) := by
  obtain ⟨h1, h2, h3, h4, h5⟩ := hk
  show hp_g L xs (q_a s) (q_a s) O k = _
  unfold hp_g
  rw [if_neg h2, if_neg h3, if_neg h4, if_neg h5, h1]
  rfl
theorem q_hpf_len (b : Nat → Int32) : ∀ (fs : List (Option Nat)) (i : Nat), (hp_f b i fs).length = fs.length
  | [], _ => rfl
  | none :: r, i => by simp only [hp_f, List.length_cons, q_hpf_len b r]
  | some _ :: r, i => by simp only [hp_f, List.length_cons, q_hpf_len b r]
theorem q_hpf_i (b : Nat → Int32) : ∀ (fs : List (Option Nat)) (i j : Nat), fs[j]? = some none → (hp_f b i fs)[j]? = some (.int (b (i + j)))
  | [], _, _, h => by simp at h
  | none :: r, i, 0, _ => rfl
  | some _ :: r, i, 0, h => by simp at h
  | x :: r, i, j + 1, h => by
    have h2 : r[j]? = some none := by simpa using h
    have := q_hpf_i b r (i + 1) j h2
    cases x <;> simp only [hp_f, List.getElem?_cons_succ] <;> rw [this, show i + 1 + j = i + (j + 1) by omega]
theorem q_hpf_r (b : Nat → Int32) : ∀ (fs : List (Option Nat)) (i j a : Nat), fs[j]? = some (some a) → (hp_f b i fs)[j]? = some (.ref a)
  | [], _, _, _, h => by simp at h
  | none :: r, i, 0, _, h => by simp at h
  | some _ :: r, i, 0, a, h => by
    simp only [List.getElem?_cons_zero, Option.some.injEq] at h
    subst h
    rfl
  | x :: r, i, j + 1, a, h => by
    have h2 : r[j]? = some (some a) := by simpa using h
    have := q_hpf_r b r (i + 1) j a h2
    cases x <;> simp only [hp_f, List.getElem?_cons_succ] <;> rw [this]
theorem q_gi {k ci j : Nat} {fs : List (Option Nat)} (hk : ly_B k ci fs) (hj : fs[j]? = some none) : ex_get (q_h L xs s O c) k ci j = some (.int (q_I (q_g s k (j : Int)))) := by
  unfold ex_get
  rw [q_atB hk]
  dsimp only
  rw [if_neg hk.2.1, if_pos rfl, q_hpf_i _ _ _ _ hj, Nat.zero_add, q_a_eq]
theorem q_gr {k ci j a : Nat} {fs : List (Option Nat)} (hk : ly_B k ci fs) (hj : fs[j]? = some (some a)) : ex_get (q_h L xs s O c) k ci j = some (.ref a) := by
  unfold ex_get
  rw [q_atB hk]
  dsimp only
  rw [if_neg hk.2.1, if_pos rfl, q_hpf_r _ _ _ _ _ hj]
theorem q_put {k ci j : Nat} {fs : List (Option Nat)} {v : Int} {t : Int32} (hk : ly_B k ci fs) (hj : fs[j]? = some none) (ht : ex_fit t (.int (q_I v)) = true) : ex_put (q_h L xs s O c) k ci j t (.int (q_I v)) = some (q_h L xs (q_u s k (j : Int) v) O c) := by
  have hlen : j < fs.length := by
    rcases Nat.lt_or_ge j fs.length with h | h
    · exact h
    · rw [List.getElem?_eq_none h] at hj
      cases hj
  unfold ex_put
  rw [q_atB hk]
  dsimp only
  rw [if_neg hk.2.1, if_pos rfl, q_hpf_len, if_pos hlen, if_pos ht]
  unfold q_h
  rw [hp_setB hk hj, q_setB hk]
  rfl
theorem q_pb {k ci j : Nat} {fs : List (Option Nat)} {v : Int} (hk : ly_B k ci fs) (hj : fs[j]? = some none) (hv : v = 0 ∨ v = 1) : ex_put (q_h L xs s O c) k ci j 1 (.int (q_I v)) = some (q_h L xs (q_u s k (j : Int) v) O c) :=
  q_put hk hj (by rcases hv with e | e <;> subst e <;> decide)
theorem q_pb2 {k ci j : Nat} {fs : List (Option Nat)} {v : Int} (hk : ly_B k ci fs) (hj : fs[j]? = some none) (hv : v = 0 ∨ v = 1) : ex_put (q_h L xs s O c) k ci j (q_I 1) (.int (q_I v)) = some (q_h L xs (q_u s k (j : Int) v) O c) := q_pb hk hj hv
theorem q_pi {k ci j : Nat} {fs : List (Option Nat)} {v : Int} (hk : ly_B k ci fs) (hj : fs[j]? = some none) : ex_put (q_h L xs s O c) k ci j 0 (.int (q_I v)) = some (q_h L xs (q_u s k (j : Int) v) O c) :=
  q_put hk hj rfl
theorem q_rcv {k ci : Nat} {fs : List (Option Nat)} (hk : ly_B k ci fs) (r : List Value) : ex_rc (q_h L xs s O c) (ci + 2) (.ref k :: r) = true := by
  unfold ex_rc
  dsimp only
  rw [q_atB hk]
  simp [hk.2.1]
theorem q_rb {x : Int} {h : ex_H} (hx : x = 0 ∨ x = 1) : (if q_I x = 0 then some ((.inl (some (.int 0)) : ex_R), h) else if q_I x = 1 then some (.inl (some (.int 1)), h) else none) = some (.inl (some (.int (q_I x))), h) := by
  rcases hx with e | e <;> subst e <;> rfl
theorem q_ln {k n : Nat} {ty : FieldType} (hk : ly_A k n ty) : ex_len (q_h L xs s O c) k = some (q_I (n : Int)) := by
  unfold ex_len
  rw [q_at hk]
  exact congrArg some (Int32.ofInt_eq_ofNat (n := n)).symm
theorem q_at0 : (q_h L xs s O c).2 0 = some (.inl (.int, L, .inl xs)) := rfl
theorem q_ln0 : ex_len (q_h L xs s O c) 0 = some (q_I (L : Int)) := congrArg some (Int32.ofInt_eq_ofNat (n := L)).symm
theorem q_ld0 {z : Int} (h0 : 0 ≤ z) (h1 : z < L) (hL : L < 2147483648) : ex_ild (q_h L xs s O c) 0 (q_I z) = some (q_I (q_xs xs z)) := by
  obtain ⟨a1, a2, a3⟩ := q_clamp h0 h1 hL
  unfold ex_ild
  rw [q_at0]
  dsimp only
  rw [if_neg a1, a2, if_neg a3]
  exact congrArg some (q_It _).symm
def q_r72 (z : Int) : Nat := 73 + 14 * z.toNat
def q_r264 (z : Int) : Nat := 270 + 3 * z.toNat
theorem q_al72 {z : Int} (h0 : 0 ≤ z) (h1 : z < 12) : ex_ald (q_h L xs s O c) 72 (q_I z) = some (q_r72 z) := by
  obtain ⟨a1, a2, a3⟩ := q_clamp (n := 12) h0 h1 (by decide)
  show (if 72 = 0 then none else if q_I z < 0 then none else if 12 ≤ (q_I z).toNatClampNeg then none else ly_r1[(q_I z).toNatClampNeg]?) = _
  rw [if_neg (by decide), if_neg a1, a2, if_neg a3]
  unfold q_r72
  have : z.toNat < 12 := by omega
  generalize z.toNat = n at this
  revert this
  revert n
  decide
theorem q_al264 {z : Int} (h0 : 0 ≤ z) (h1 : z < 5) : ex_ald (q_h L xs s O c) 264 (q_I z) = some (q_r264 z) := by
  obtain ⟨a1, a2, a3⟩ := q_clamp (n := 5) h0 h1 (by decide)
  show (if 264 = 0 then none else if q_I z < 0 then none else if 5 ≤ (q_I z).toNatClampNeg then none else ly_r2[(q_I z).toNatClampNeg]?) = _
  rw [if_neg (by decide), if_neg a1, a2, if_neg a3]
  unfold q_r264
  have : z.toNat < 5 := by omega
  generalize z.toNat = n at this
  revert this
  revert n
  decide
theorem q_lld : ex_lld (q_h L xs s O c) 312 (q_I 0) = some (O 0) := rfl
theorem q_lst {v : Int64} : ex_lst (q_h L xs s O c) 312 (q_I 0) v = some (q_h L xs s (vp_updL O 0 v) c) := by
  show some (ex_set (q_h L xs s O c) 312 (.inl (.long, 1, .inr (.inl (vp_updL O 0 v))))) = _
  refine congrArg some (Prod.ext rfl (funext fun j => ?_))
  show (if j = 312 then _ else hp_g L xs (q_a s) (q_a s) O j) = hp_g L xs (q_a s) (q_a s) (vp_updL O 0 v) j
  by_cases e : j = 312
  · subst e
    rfl
  · rw [if_neg e]
    unfold hp_g
    simp only [if_neg e]
theorem q_clamp2 {z : Int} (h0 : 0 ≤ z) (h1 : z < 2147483648) : ¬ q_I z < 0 ∧ (q_I z).toNatClampNeg = z.toNat := by
  have e : (q_I z).toInt = z := q_sg_id (by omega) (by omega)
  refine ⟨?_, ?_⟩
  · rw [Int32.lt_iff_toInt_lt, e]
    show ¬ z < 0
    omega
  · show (q_I z).toInt.toNat = _
    rw [e]
theorem q_cpi {k1 k2 n1 n2 : Nat} {a b n : Int} (hk1 : ly_A k1 n1 .int) (hk2 : ly_A k2 n2 .int) (h0 : 0 ≤ a) (h1 : 0 ≤ b) (h2 : 0 ≤ n) (h3 : a + n ≤ n1) (h4 : b + n ≤ n2) (hn1 : n1 < 2147483648) (hn2 : n2 < 2147483648) : ex_cpi (q_h L xs s O c) k1 (q_I a) k2 (q_I b) (q_I n) = some (q_h L xs (q_cp s k1 a k2 b n) O c) := by
  obtain ⟨a1, a2⟩ := q_clamp2 h0 (by omega : a < 2147483648)
  obtain ⟨b1, b2⟩ := q_clamp2 h1 (by omega : b < 2147483648)
  obtain ⟨c1, c2⟩ := q_clamp2 h2 (by omega : n < 2147483648)
  unfold ex_cpi
  rw [q_at hk1, q_at hk2]
  dsimp only
  rw [if_neg hk1.2.1, if_neg hk2.2.1, if_neg a1, if_neg b1, if_neg c1, a2, b2, c2, if_neg (by omega), if_neg (by omega)]
  refine congrArg some ?_
  unfold q_h
  rw [hp_setA hk2]
  refine q_hp_congr (fun j ty2 m hj => ?_) (fun j ci fs hj => ?_)
  · by_cases e : j = k2
    · subst e
      simp only [up1, if_true]
      funext i
      unfold va_cpy q_a q_cp
      by_cases ei : b.toNat ≤ i ∧ i < b.toNat + n.toNat
      · rw [if_pos ei, if_pos ⟨rfl, by omega, by omega⟩]
        refine congrArg (s k1) ?_
        omega
      · rw [if_neg ei, if_neg (fun h => ei (by omega))]
    · simp only [up1, if_neg e]
      funext i
      unfold q_a q_cp
      rw [if_neg (fun h => e h.1)]
  · funext i
    unfold q_a q_cp
    rw [if_neg]
    rintro ⟨e, -⟩
    subst e
    rw [hk2.1] at hj
    cases hj
theorem q_thr : ex_thr (q_h L xs s O c) = q_h L xs s O (q_th c) := rfl
end HPX
/-! back from a call -/
section BK
variable (d mi nx : Nat) (Lo st : List Value) (tl : List Nat) (h : ex_H)
theorem q_bk0 : ex_back EV d mi nx Lo st tl (some (.inl none, h)) = EV d mi nx Lo st h := rfl
theorem q_bk1 (w : Int32) : ex_back EV d mi nx Lo st tl (some (.inl (some (.int w)), h)) = EV d mi nx Lo (.int w :: st) h := rfl
theorem q_bk2 (w : Nat) : ex_back EV d mi nx Lo st tl (some (.inl (some (.ref w)), h)) = EV d mi nx Lo (.ref w :: st) h := rfl
end BK
