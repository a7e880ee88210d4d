/-! rules of reckoning for a run -/
def q_b (p : Prop) [Decidable p] : Int := if p then 1 else 0
theorem q_sg_b (p : Prop) [Decidable p] : q_sg (q_b p) = q_b p := by
  unfold q_b
  split <;> rfl
theorem q_b_0 (p : Prop) [Decidable p] : (q_b p = 0) = ¬ p := by
  unfold q_b
  split <;> simp_all
theorem q_b_n0 (p : Prop) [Decidable p] : (0 = q_b p) = ¬ p := by
  unfold q_b
  split <;> simp_all
theorem q_b_1 (p : Prop) [Decidable p] : (q_b p = 1) = p := by
  unfold q_b
  split <;> simp_all
theorem q_b_n1 (p : Prop) [Decidable p] : (1 = q_b p) = p := by
  unfold q_b
  split <;> simp_all
theorem q_b_01 (p : Prop) [Decidable p] : q_b p = 0 ∨ q_b p = 1 := by
  unfold q_b
  split <;> simp
theorem q_bt {p : Prop} [Decidable p] (h : p) : q_b p = 1 := if_pos h
theorem q_bf {p : Prop} [Decidable p] (h : ¬ p) : q_b p = 0 := if_neg h
theorem q_b_T {i : Decidable True} : @q_b True i = 1 := if_pos trivial
theorem q_b_F {i : Decidable False} : @q_b False i = 0 := if_neg id
theorem q_b_c {p q : Prop} {_ : Decidable p} {_ : Decidable q} (h : p ↔ q) : q_b p = q_b q := by
  unfold q_b
  by_cases e : p
  · rw [if_pos e, if_pos (h.mp e)]
  · rw [if_neg e, if_neg (fun x => e (h.mpr x))]
section DEC
variable {x y : Int}
theorem q_lt_t (h : x < y) : (x < y) = True := eq_true h
theorem q_lt_f (h : ¬ x < y) : (x < y) = False := eq_false h
theorem q_le_t (h : x ≤ y) : (x ≤ y) = True := eq_true h
theorem q_le_f (h : ¬ x ≤ y) : (x ≤ y) = False := eq_false h
theorem q_eq_t (h : x = y) : (x = y) = True := eq_true h
theorem q_eq_f (h : ¬ x = y) : (x = y) = False := eq_false h
end DEC
/-- a loop that counts up -/
theorem q_for {σ X : Type} (K : Int → σ → X) (P : Int → σ → Prop) {lo hi : Int} (hle : lo ≤ hi) (step : ∀ j t, lo ≤ j → j < hi → P j t → ∃ t', K j t = K (j + 1) t' ∧ P (j + 1) t') {t : σ} (h : P lo t) : ∃ t', K lo t = K hi t' ∧ P hi t' := by
  have key : ∀ (n : Nat) (j : Int) (t : σ), j + n = hi → lo ≤ j → P j t → ∃ t', K j t = K hi t' ∧ P hi t' := by
    intro n
    induction n with
    | zero =>
      intro j t hj _ hP
      have : j = hi := by omega
      subst this
      exact ⟨t, rfl, hP⟩
    | succ n ih =>
      intro j t hj hlo hP
      obtain ⟨t1, e1, p1⟩ := step j t hlo (by omega) hP
      obtain ⟨t2, e2, p2⟩ := ih (j + 1) t1 (by omega) (by omega) p1
      exact ⟨t2, e1.trans e2, p2⟩
  exact key (hi - lo).toNat lo t (by omega) (Int.le_refl _) h
def q_sn (f : Int → Int) (lo : Int) : Nat → Int
  | 0 => 0
  | n + 1 => q_sn f lo n + f (lo + n)
/-- the sum of f from lo on, below hi -/
def q_S (f : Int → Int) (lo hi : Int) : Int := q_sn f lo (hi - lo).toNat
theorem q_S_0 (f : Int → Int) (lo : Int) : q_S f lo lo = 0 := by
  unfold q_S
  rw [Int.sub_self]
  rfl
theorem q_S_1 (f : Int → Int) {lo j : Int} (h : lo ≤ j) : q_S f lo (j + 1) = q_S f lo j + f j := by
  unfold q_S
  rw [show (j + 1 - lo).toNat = (j - lo).toNat + 1 by omega]
  show q_sn f lo (j - lo).toNat + f (lo + ((j - lo).toNat : Nat)) = _
  rw [show lo + (((j - lo).toNat : Nat) : Int) = j by omega]
theorem q_S_c {f g : Int → Int} {lo hi : Int} (h : ∀ i, lo ≤ i → i < hi → f i = g i) : q_S f lo hi = q_S g lo hi := by
  have key : ∀ n : Nat, (n : Int) ≤ hi - lo → q_sn f lo n = q_sn g lo n := by
    intro n
    induction n with
    | zero => intro _; rfl
    | succ n ih =>
      intro hn
      show q_sn f lo n + f (lo + n) = q_sn g lo n + g (lo + n)
      rw [ih (by omega), h (lo + n) (by omega) (by omega)]
  unfold q_S
  by_cases e : lo ≤ hi
  · exact key _ (by omega)
  · rw [show (hi - lo).toNat = 0 by omega]
    rfl
theorem q_S_bd {f : Int → Int} {lo hi a b : Int} (h : ∀ i, lo ≤ i → i < hi → a ≤ f i ∧ f i ≤ b) (hle : lo ≤ hi) : a * (hi - lo) ≤ q_S f lo hi ∧ q_S f lo hi ≤ b * (hi - lo) := by
  have key : ∀ n : Nat, (n : Int) ≤ hi - lo → a * n ≤ q_sn f lo n ∧ q_sn f lo n ≤ b * n := by
    intro n
    induction n with
    | zero => intro _; exact ⟨by simp [q_sn], by simp [q_sn]⟩
    | succ n ih =>
      intro hn
      obtain ⟨i1, i2⟩ := ih (by omega)
      obtain ⟨j1, j2⟩ := h (lo + n) (by omega) (by omega)
      show a * ((n + 1 : Nat) : Int) ≤ q_sn f lo n + f (lo + n) ∧ q_sn f lo n + f (lo + n) ≤ b * ((n + 1 : Nat) : Int)
      rw [Int.natCast_add, Int.mul_add, Int.mul_add]
      simp only [Int.natCast_one, Int.mul_one]
      omega
  have := key (hi - lo).toNat (by omega)
  rwa [show (((hi - lo).toNat : Nat) : Int) = hi - lo by omega] at this
/-- which cells may differ -/
def fr (S : List Nat) (s t : Nat → Int → Int32) : Prop := ∀ k, k ∉ S → t k = s k
theorem fr_rfl {S : List Nat} {s : Nat → Int → Int32} : fr S s s := fun _ _ => rfl
theorem fr_mono {S S' : List Nat} {s t : Nat → Int → Int32} (h : fr S s t) (hs : S ⊆ S') : fr S' s t := fun k hk => h k (fun e => hk (hs e))
theorem fr_trans {S : List Nat} {s t u : Nat → Int → Int32} (h : fr S s t) (h' : fr S t u) : fr S s u := fun k hk => (h' k hk).trans (h k hk)
theorem fr_g {S : List Nat} {s t : Nat → Int → Int32} (h : fr S s t) {k : Nat} (hk : k ∉ S) (z : Int) : q_g t k z = q_g s k z := by
  unfold q_g
  rw [h k hk]
theorem fr_f {S : List Nat} {s t : Nat → Int → Int32} (h : fr S s t) {k : Nat} (hk : k ∉ S) : q_g t k = q_g s k := funext (fr_g h hk)
theorem fr_u {S : List Nat} {s t : Nat → Int → Int32} {k : Nat} {z v : Int} (h : fr S s t) (hk : k ∈ S) : fr S s (q_u t k z v) := by
  intro k' hk'
  rw [← h k' hk']
  funext z'
  unfold q_u
  rw [if_neg]
  rintro ⟨e, -⟩
  exact hk' (e ▸ hk)
/-- cells lo .. hi - 1 of k told by f -/
def q_fn (s : Nat → Int → Int32) (k : Nat) (lo hi : Int) (f : Int → Int) : Nat → Int → Int32 := fun k' z => if k' = k ∧ lo ≤ z ∧ z < hi then q_I (f z) else s k' z
theorem q_fn_0 (s : Nat → Int → Int32) (k : Nat) (lo : Int) (f : Int → Int) : q_fn s k lo lo f = s := by
  funext k' z
  unfold q_fn
  rw [if_neg (by omega)]
theorem q_fn_1 (s : Nat → Int → Int32) (k : Nat) {lo j : Int} (f : Int → Int) (h : lo ≤ j) {v : Int} (hv : q_I v = q_I (f j)) : q_u (q_fn s k lo j f) k j v = q_fn s k lo (j + 1) f := by
  funext k' z
  unfold q_fn q_u
  by_cases e : k' = k ∧ z = j
  · rw [if_pos e, if_pos ⟨e.1, by omega, by omega⟩, hv, e.2]
  · rw [if_neg e]
    dsimp only
    by_cases e2 : k' = k ∧ lo ≤ z ∧ z < j
    · rw [if_pos e2, if_pos ⟨e2.1, by omega, by omega⟩]
    · rw [if_neg e2, if_neg (fun x => e2 ⟨x.1, x.2.1, by
        have := fun y => e ⟨x.1, y⟩
        omega⟩)]
theorem q_g_fn (s : Nat → Int → Int32) (k : Nat) (lo hi : Int) (f : Int → Int) (k' : Nat) (z : Int) : q_g (q_fn s k lo hi f) k' z = if k' = k ∧ lo ≤ z ∧ z < hi then q_sg (f z) else q_g s k' z := by
  unfold q_g q_fn
  split <;> rfl
theorem q_g_fne {s : Nat → Int → Int32} {k : Nat} {lo hi : Int} {f : Int → Int} {k' : Nat} {z : Int} (h : ¬ (k' = k ∧ lo ≤ z ∧ z < hi)) : q_g (q_fn s k lo hi f) k' z = q_g s k' z := by rw [q_g_fn, if_neg h]
theorem fr_fn {S : List Nat} {s t : Nat → Int → Int32} {k : Nat} {lo hi : Int} {f : Int → Int} (h : fr S s t) (hk : k ∈ S) : fr S s (q_fn t k lo hi f) := by
  intro k' hk'
  rw [← h k' hk']
  funext z'
  unfold q_fn
  rw [if_neg]
  rintro ⟨e, -⟩
  exact hk' (e ▸ hk)
theorem q_g_cp (s : Nat → Int → Int32) (k1 : Nat) (a : Int) (k2 : Nat) (b n : Int) (k : Nat) (z : Int) : q_g (q_cp s k1 a k2 b n) k z = if k = k2 ∧ b ≤ z ∧ z < b + n then q_g s k1 (z - b + a) else q_g s k z := by
  unfold q_g q_cp
  split <;> rfl
theorem q_g_cpe {s : Nat → Int → Int32} {k1 : Nat} {a : Int} {k2 : Nat} {b n : Int} {k : Nat} {z : Int} (h : ¬ (k = k2 ∧ b ≤ z ∧ z < b + n)) : q_g (q_cp s k1 a k2 b n) k z = q_g s k z := by rw [q_g_cp, if_neg h]
theorem fr_cp {S : List Nat} {s t : Nat → Int → Int32} {k1 : Nat} {a : Int} {k2 : Nat} {b n : Int} (h : fr S s t) (hk : k2 ∈ S) : fr S s (q_cp t k1 a k2 b n) := by
  intro k' hk'
  rw [← h k' hk']
  funext z'
  unfold q_cp
  rw [if_neg]
  rintro ⟨e, -⟩
  exact hk' (e ▸ hk)
/-- a loop that fills -/
theorem q_fl {X : Type} (K : Int → (Nat → Int → Int32) → X) (s : Nat → Int → Int32) (k : Nat) (f : Int → Int) {lo hi : Int} (hle : lo ≤ hi) (step : ∀ j, lo ≤ j → j < hi → ∃ v, K j (q_fn s k lo j f) = K (j + 1) (q_u (q_fn s k lo j f) k j v) ∧ q_I v = q_I (f j)) : K lo s = K hi (q_fn s k lo hi f) := by
  have := q_for K (fun j t => t = q_fn s k lo j f) hle (fun j t h1 h2 e => by
    subst e
    obtain ⟨v, e1, e2⟩ := step j h1 h2
    exact ⟨_, e1, q_fn_1 s k f h1 e2⟩) (t := s) (q_fn_0 s k lo f).symm
  obtain ⟨t', e1, e2⟩ := this
  rw [e1, e2]
/-- a loop that adds up -/
theorem q_sm {X : Type} (K : Int → Int → X) (f : Int → Int) {lo hi : Int} (hle : lo ≤ hi) (step : ∀ j a, lo ≤ j → j < hi → K j a = K (j + 1) (a + f j)) : K lo 0 = K hi (q_S f lo hi) := by
  obtain ⟨t', e1, e2⟩ := q_for K (fun j a => a = q_S f lo j) hle (fun j a h1 h2 e => ⟨_, step j a h1 h2, by rw [q_S_1 f h1, e]⟩) (t := 0) (q_S_0 f lo).symm
  rw [e1, e2]
/-- a loop that finds the first of a kind, or none -/
theorem q_fd {X : Type} (K : Int → X) (R : Int → Prop) [DecidablePred R] {lo hi : Int} (hle : lo ≤ hi) (E : X) (F : Int → X) (stop : K hi = E) (hit : ∀ j, lo ≤ j → j < hi → R j → K j = F j) (miss : ∀ j, lo ≤ j → j < hi → ¬ R j → K j = K (j + 1)) : (∃ j, lo ≤ j ∧ j < hi ∧ R j ∧ (∀ i, lo ≤ i → i < j → ¬ R i) ∧ K lo = F j) ∨ ((∀ i, lo ≤ i → i < hi → ¬ R i) ∧ K lo = E) := by
  have key : ∀ (n : Nat) (j : Int), j + n = hi → lo ≤ j → (∀ i, lo ≤ i → i < j → ¬ R i) → K lo = K j → (∃ j, lo ≤ j ∧ j < hi ∧ R j ∧ (∀ i, lo ≤ i → i < j → ¬ R i) ∧ K lo = F j) ∨ ((∀ i, lo ≤ i → i < hi → ¬ R i) ∧ K lo = E) := by
    intro n
    induction n with
    | zero =>
      intro j hj _ hn hk
      have : j = hi := by omega
      subst this
      exact Or.inr ⟨hn, hk.trans stop⟩
    | succ n ih =>
      intro j hj hlo hn hk
      by_cases hR : R j
      · exact Or.inl ⟨j, hlo, by omega, hR, hn, hk.trans (hit j hlo (by omega) hR)⟩
      · refine ih (j + 1) (by omega) (by omega) (fun i hi1 hi2 => ?_) (hk.trans (miss j hlo (by omega) hR))
        by_cases e : i = j
        · exact e ▸ hR
        · exact hn i hi1 (by omega)
  exact key (hi - lo).toNat lo (by omega) (Int.le_refl _) (fun i h1 h2 => absurd h2 (by omega)) rfl
theorem q_Rb {p q : Prop} {_ : Decidable p} {_ : Decidable q} {h : ex_H} (e : p ↔ q) : (some (.inl (some (.int (q_I (q_b p)))), h) : Option (ex_R × ex_H)) = some (.inl (some (.int (q_I (q_b q)))), h) := by rw [q_b_c e]
theorem q_Ri {x y : Int} {h : ex_H} (e : x = y) : (some (.inl (some (.int (q_I x))), h) : Option (ex_R × ex_H)) = some (.inl (some (.int (q_I y))), h) := by rw [e]
/-- done over and over -/
def q_it {α : Type} (f : Int → α → α) : Nat → α → α
  | 0, a => a
  | n + 1, a => f n (q_it f n a)
theorem q_it_1 {α : Type} (f : Int → α → α) {j : Int} (h : 0 ≤ j) (a : α) : q_it f (j + 1).toNat a = f j (q_it f j.toNat a) := by
  rw [show (j + 1).toNat = j.toNat + 1 by omega]
  show f (j.toNat : Int) _ = _
  rw [show ((j.toNat : Nat) : Int) = j by omega]
/-- cells lo .. hi - 1 of k told by f, as they lie -/
def q_w (s : Nat → Int → Int32) (k : Nat) (lo hi : Int) (f : Int → Int32) : Nat → Int → Int32 := fun k' z => if k' = k ∧ lo ≤ z ∧ z < hi then f z else s k' z
theorem q_w_id (s : Nat → Int → Int32) (k : Nat) (lo hi : Int) {f : Int → Int32} (h : ∀ z, lo ≤ z → z < hi → f z = s k z) : q_w s k lo hi f = s := by
  funext k' z
  unfold q_w
  split
  · rename_i e
    rw [h z e.2.1 e.2.2, e.1]
  · rfl
theorem q_w_w (s : Nat → Int → Int32) (k : Nat) (lo hi : Int) (f g : Int → Int32) : q_w (q_w s k lo hi f) k lo hi g = q_w s k lo hi g := by
  funext k' z
  unfold q_w
  split <;> rfl
theorem q_w_u (s : Nat → Int → Int32) (k : Nat) {lo hi : Int} (f : Int → Int32) {z v : Int} (h1 : lo ≤ z) (h2 : z < hi) : q_u (q_w s k lo hi f) k z v = q_w s k lo hi (fun y => if y = z then q_I v else f y) := by
  funext k' y
  unfold q_u q_w
  by_cases e : k' = k ∧ y = z
  · rw [if_pos e, if_pos ⟨e.1, by omega, by omega⟩]
    exact (if_pos e.2).symm
  · rw [if_neg e]
    dsimp only
    by_cases e2 : k' = k ∧ lo ≤ y ∧ y < hi
    · rw [if_pos e2, if_pos e2, if_neg (fun x => e ⟨e2.1, x⟩)]
    · rw [if_neg e2, if_neg e2]
theorem q_w_g (s : Nat → Int → Int32) (k : Nat) (lo hi : Int) (f : Int → Int32) (k' : Nat) (z : Int) : q_g (q_w s k lo hi f) k' z = if k' = k ∧ lo ≤ z ∧ z < hi then (f z).toInt else q_g s k' z := by
  unfold q_g q_w
  split <;> rfl
theorem q_w_ne {s : Nat → Int → Int32} {k : Nat} {lo hi : Int} {f : Int → Int32} {k' : Nat} {z : Int} (h : ¬ (k' = k ∧ lo ≤ z ∧ z < hi)) : q_g (q_w s k lo hi f) k' z = q_g s k' z := by rw [q_w_g, if_neg h]
theorem q_w_f {s : Nat → Int → Int32} {k : Nat} {lo hi : Int} {f : Int → Int32} {k' : Nat} (h : k' ≠ k) : q_g (q_w s k lo hi f) k' = q_g s k' := funext fun z => q_w_ne (fun e => h e.1)
theorem q_w_c {s : Nat → Int → Int32} {k : Nat} {lo hi : Int} {f g : Int → Int32} (h : ∀ z, lo ≤ z → z < hi → f z = g z) : q_w s k lo hi f = q_w s k lo hi g := by
  funext k' z
  unfold q_w
  split
  · rename_i e
    exact h z e.2.1 e.2.2
  · rfl
theorem fr_w {S : List Nat} {s t : Nat → Int → Int32} {k : Nat} {lo hi : Int} {f : Int → Int32} (h : fr S s t) (hk : k ∈ S) : fr S s (q_w t k lo hi f) := by
  intro k' hk'
  rw [← h k' hk']
  funext z'
  unfold q_w
  rw [if_neg]
  rintro ⟨e, -⟩
  exact hk' (e ▸ hk)
theorem q_u_f {s : Nat → Int → Int32} {k : Nat} {z v : Int} {k' : Nat} (h : k' ≠ k) : q_g (q_u s k z v) k' = q_g s k' := funext fun y => q_gu_ne (fun e => h e.1)
theorem q_fn_f {s : Nat → Int → Int32} {k : Nat} {lo hi : Int} {f : Int → Int} {k' : Nat} (h : k' ≠ k) : q_g (q_fn s k lo hi f) k' = q_g s k' := funext fun y => q_g_fne (fun e => h e.1)
theorem q_cp_f {s : Nat → Int → Int32} {k1 : Nat} {a : Int} {k2 : Nat} {b n : Int} {k' : Nat} (h : k' ≠ k2) : q_g (q_cp s k1 a k2 b n) k' = q_g s k' := funext fun y => q_g_cpe (fun e => h e.1)
/-- n cells of k from lo on told by W -/
def q_v (s : Nat → Int → Int32) (k : Nat) (lo n : Int) (W : Int → Int32) : Nat → Int → Int32 := fun k' z => if k' = k ∧ lo ≤ z ∧ z < lo + n then W (z - lo) else s k' z
theorem q_v_id (s : Nat → Int → Int32) (k : Nat) (lo n : Int) : q_v s k lo n (fun z => s k (lo + z)) = s := by
  funext k' z
  unfold q_v
  split
  · rename_i e
    show s k (lo + (z - lo)) = s k' z
    rw [show lo + (z - lo) = z by omega, e.1]
  · rfl
theorem q_v_v (s : Nat → Int → Int32) (k : Nat) (lo n : Int) (W W' : Int → Int32) : q_v (q_v s k lo n W) k lo n W' = q_v s k lo n W' := by
  funext k' z
  unfold q_v
  split <;> rfl
theorem q_v_u (s : Nat → Int → Int32) (k : Nat) {lo n : Int} (W : Int → Int32) {z v : Int} (h1 : 0 ≤ z) (h2 : z < n) : q_u (q_v s k lo n W) k (lo + z) v = q_v s k lo n (fun y => if y = z then q_I v else W y) := by
  funext k' y
  unfold q_u q_v
  by_cases e : k' = k ∧ y = lo + z
  · rw [if_pos e, if_pos ⟨e.1, by omega, by omega⟩]
    exact (if_pos (by omega)).symm
  · rw [if_neg e]
    dsimp only
    by_cases e2 : k' = k ∧ lo ≤ y ∧ y < lo + n
    · rw [if_pos e2, if_pos e2, if_neg (fun x => e ⟨e2.1, by omega⟩)]
    · rw [if_neg e2, if_neg e2]
theorem q_v_g (s : Nat → Int → Int32) (k : Nat) {lo n z : Int} (W : Int → Int32) (h1 : 0 ≤ z) (h2 : z < n) : q_g (q_v s k lo n W) k (lo + z) = (W z).toInt := by
  unfold q_g q_v
  rw [if_pos ⟨rfl, by omega, by omega⟩, show lo + z - lo = z by omega]
theorem q_v_ne {s : Nat → Int → Int32} {k : Nat} {lo n : Int} {W : Int → Int32} {k' : Nat} {z : Int} (h : ¬ (k' = k ∧ lo ≤ z ∧ z < lo + n)) : q_g (q_v s k lo n W) k' z = q_g s k' z := by
  unfold q_g q_v
  rw [if_neg h]
theorem q_v_f {s : Nat → Int → Int32} {k : Nat} {lo n : Int} {W : Int → Int32} {k' : Nat} (h : k' ≠ k) : q_g (q_v s k lo n W) k' = q_g s k' := funext fun z => q_v_ne (fun e => h e.1)
theorem fr_v {S : List Nat} {s t : Nat → Int → Int32} {k : Nat} {lo n : Int} {W : Int → Int32} (h : fr S s t) (hk : k ∈ S) : fr S s (q_v t k lo n W) := by
  intro k' hk'
  rw [← h k' hk']
  funext z'
  unfold q_v
  rw [if_neg]
  rintro ⟨e, -⟩
  exact hk' (e ▸ hk)
theorem q_v_c {s : Nat → Int → Int32} {k : Nat} {lo n : Int} {W W' : Int → Int32} (h : ∀ z, 0 ≤ z → z < n → W z = W' z) : q_v s k lo n W = q_v s k lo n W' := by
  funext k' z
  unfold q_v
  split
  · rename_i e
    exact h _ (by omega) (by omega)
  · rfl
theorem q_v_u0 (s : Nat → Int → Int32) (k : Nat) {n : Int} (W : Int → Int32) {z v : Int} (h1 : 0 ≤ z) (h2 : z < n) : q_u (q_v s k 0 n W) k z v = q_v s k 0 n (fun y => if y = z then q_I v else W y) := by
  have := q_v_u s k (lo := 0) W (v := v) h1 h2
  rwa [Int.zero_add] at this
theorem q_v_g0 (s : Nat → Int → Int32) (k : Nat) {n z : Int} (W : Int → Int32) (h1 : 0 ≤ z) (h2 : z < n) : q_g (q_v s k 0 n W) k z = (W z).toInt := by
  have := q_v_g s k (lo := 0) W h1 h2
  rwa [Int.zero_add] at this
theorem q_v_fl {X : Type} (K : Int → (Nat → Int → Int32) → X) (s : Nat → Int → Int32) (k : Nat) (f : Int → Int) {lo n : Int} (hle : 0 ≤ n) (step : ∀ j W, 0 ≤ j → j < n → ∃ v, K j (q_v s k lo n W) = K (j + 1) (q_u (q_v s k lo n W) k (lo + j) v) ∧ q_I v = q_I (f j)) : K 0 s = K n (q_v s k lo n (fun z => q_I (f z))) := by
  obtain ⟨t', e1, e2⟩ := q_for (fun j W => K j (q_v s k lo n W)) (fun j W => ∀ z, 0 ≤ z → z < j → W z = q_I (f z)) hle (fun j W h1 h2 e => by
    obtain ⟨v, e1, e2⟩ := step j W h1 h2
    refine ⟨fun y => if y = j then q_I v else W y, ?_, fun z z1 z2 => ?_⟩
    · rw [e1, q_v_u s k W h1 h2]
    · dsimp only
      by_cases ez : z = j
      · rw [if_pos ez, e2, ez]
      · rw [if_neg ez]
        exact e z z1 (by omega)) (t := fun z => s k (lo + z)) (fun z z1 z2 => absurd z2 (by omega))
  rw [q_v_id] at e1
  rw [e1, q_v_c (W' := fun z => q_I (f z)) (fun z z1 z2 => e2 z z1 z2)]
