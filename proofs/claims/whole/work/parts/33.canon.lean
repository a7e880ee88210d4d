/-! the same without heights: functions of the row alone -/
def q_any (f : Int → Bool) : Nat → Bool
  | 0 => false
  | n + 1 => q_any f n || f n
theorem q_any_iff (f : Int → Bool) : ∀ n : Nat, q_any f n = true ↔ ∃ k : Int, 0 ≤ k ∧ k < n ∧ f k = true
  | 0 => by
    constructor
    · intro h
      exact Bool.noConfusion h
    · rintro ⟨k, h1, h2, _⟩
      omega
  | n + 1 => by
    show (q_any f n || f n) = true ↔ _
    rw [Bool.or_eq_true, q_any_iff f n]
    constructor
    · rintro (⟨k, h1, h2, h3⟩ | h)
      · exact ⟨k, h1, by omega, h3⟩
      · exact ⟨n, by omega, by omega, h⟩
    · rintro ⟨k, h1, h2, h3⟩
      by_cases e : k = n
      · exact Or.inr (e ▸ h3)
      · exact Or.inl ⟨k, h1, by omega, h3⟩
def Inb (m : Int → Int) : Nat → Int → Int → Bool
  | 0, _, _ => false
  | h + 1, r, p => decide (p = r) || (decide (pg m r 0 = 2) && q_any (fun k => Inb m h (pg m r (10 + k)) p) (pg m r 1).toNat)
def kcx (m : Int → Int) : Nat → Int → Int
  | 0, _ => 0
  | h + 1, r => if pg m r 0 = 2 then q_S (fun k => kcx m h (pg m r (10 + k))) 0 (pg m r 1) else pg m r 1
def VFx (m : Int → Int) : Nat → Int → (Int → Int32) → Int → Int32
  | 0, _, V => V
  | h + 1, r, V => if pg m r 0 = 2 then q_it (fun k V => VFx m h (pg m r (10 + k)) V) (pg m r 1).toNat V else q_it (fun k V z => if z = pg m r (4 + k) then q_I (pg m r (10 + k)) else V z) (pg m r 1).toNat V
def dpx (m : Int → Int) : Nat → Int → Int
  | 0, _ => 0
  | h + 1, r => 1 + if pg m r 0 = 2 then dpx m h (pg m r 10) else 0
theorem q_it_c {α : Type} {f g : Int → α → α} : ∀ (n : Nat) (a : α), (∀ k : Int, 0 ≤ k → k < n → ∀ x, f k x = g k x) → q_it f n a = q_it g n a
  | 0, a, _ => rfl
  | n + 1, a, h => by
    show f n (q_it f n a) = g n (q_it g n a)
    rw [q_it_c n a (fun k h1 h2 x => h k h1 (by omega) x), h n (by omega) (by omega)]
section CN
variable {m : Int → Int} {top : Int} {Lv : Int → Prop} {ht : Int → Nat} {n : Nat} {r : Int}
theorem cn_in (T : TD m top Lv ht n r) : ∀ (h f : Nat) {p : Int} (q : Int), Lv p → ht p = h → h < f → (Inb m f p q = true ↔ Inn m h p q)
  | 0, f + 1, p, q, a, b, _ => by
    have e := td_lk T a b
    simp [Inb, Inn, e]
  | h + 1, f + 1, p, q, a, b, hf => by
    have e := td_bk T a (by omega)
    have R := td_rng T a
    show (decide (q = p) || (decide (pg m p 0 = 2) && q_any (fun k => Inb m f (pg m p (10 + k)) q) (pg m p 1).toNat)) = true ↔ _
    rw [Bool.or_eq_true, Bool.and_eq_true, decide_eq_true_iff, decide_eq_true_iff, q_any_iff]
    show _ ↔ (q = p ∨ ∃ k, 0 ≤ k ∧ k < pg m p 1 ∧ Inn m h (pg m p (10 + k)) q)
    refine or_congr Iff.rfl ⟨fun ⟨_, k, h1, h2, h3⟩ => ?_, fun ⟨k, h1, h2, h3⟩ => ⟨e, k, h1, by omega, ?_⟩⟩
    · obtain ⟨c1, c2⟩ := td_bc T a (by omega) h1 (show k < pg m p 1 by omega)
      exact ⟨k, h1, by omega, (cn_in T h f q c1 (by omega) (by omega)).mp h3⟩
    · obtain ⟨c1, c2⟩ := td_bc T a (by omega) h1 h2
      exact (cn_in T h f q c1 (by omega) (by omega)).mpr h3
theorem cn_kc (T : TD m top Lv ht n r) : ∀ (h f : Nat) {p : Int}, Lv p → ht p = h → h < f → kcx m f p = kc m h p
  | 0, f + 1, p, a, b, _ => by
    have e := td_lk T a b
    show (if pg m p 0 = 2 then _ else pg m p 1) = pg m p 1
    rw [if_neg (by omega)]
  | h + 1, f + 1, p, a, b, hf => by
    have e := td_bk T a (by omega)
    show (if pg m p 0 = 2 then _ else _) = _
    rw [if_pos e]
    refine q_S_c (fun i h1 h2 => ?_)
    obtain ⟨c1, c2⟩ := td_bc T a (by omega) h1 h2
    exact cn_kc T h f c1 (by omega) (by omega)
theorem cn_vf (T : TD m top Lv ht n r) : ∀ (h f : Nat) {p : Int} (V : Int → Int32), Lv p → ht p = h → h < f → VFx m f p V = VF m h p V
  | 0, f + 1, p, V, a, b, _ => by
    have e := td_lk T a b
    show (if pg m p 0 = 2 then _ else _) = _
    rw [if_neg (by omega)]
    rfl
  | h + 1, f + 1, p, V, a, b, hf => by
    have e := td_bk T a (by omega)
    show (if pg m p 0 = 2 then _ else _) = _
    rw [if_pos e]
    refine q_it_c _ _ (fun k h1 h2 W => ?_)
    obtain ⟨c1, c2⟩ := td_bc T a (by omega) h1 (show k < pg m p 1 by omega)
    exact cn_vf T h f W c1 (by omega) (by omega)
theorem cn_dp (T : TD m top Lv ht n r) : ∀ (h f : Nat) {p : Int}, Lv p → ht p = h → h < f → dpx m f p = h + 1
  | 0, f + 1, p, a, b, _ => by
    have e := td_lk T a b
    show (1 + if pg m p 0 = 2 then _ else (0 : Int)) = _
    rw [if_neg (by omega)]
    rfl
  | h + 1, f + 1, p, a, b, hf => by
    have e := td_bk T a (by omega)
    have R := td_rng T a
    show (1 + if pg m p 0 = 2 then dpx m f (pg m p 10) else (0 : Int)) = _
    obtain ⟨c1, c2⟩ := td_bc T a (by omega) (Int.le_refl 0) (show 0 < pg m p 1 by omega)
    rw [show (10 : Int) + 0 = 10 from rfl] at c1 c2
    rw [if_pos e, cn_dp T h f c1 (by omega) (by omega)]
    omega
end CN
/-- a view's root; whether it is open; its root, if it is -/
def vr (m : Int → Int) (v : Int) : Int := if v = 4 then hc m 1 else m (10 + 2 * v)
def vo (m : Int → Int) (v : Int) : Bool := decide (v = 4) || decide (m (9 + 2 * v) ≠ -1)
def ve (m : Int → Int) (v : Int) : Int := if vo m v = true then vr m v else -1
def iv (m : Int → Int) (v q : Int) : Bool := decide (ve m v ≠ -1) && Inb m 13 (ve m v) q
def KC (m : Int → Int) (p : Int) : Int := if p = -1 then 0 else kcx m 13 p
def VV (m : Int → Int) (v : Int) : Int → Int32 := if ve m v = -1 then fun _ => q_I (-1) else VFx m 13 (ve m v) (fun _ => q_I (-1))
def DP (m : Int → Int) (p : Int) : Int := if p = -1 then 0 else dpx m 13 p
/-- bits of the views that a page is of -/
def mk (m : Int → Int) (q : Int) : Int := q_it (fun v x => if iv m v q = true then q_or x (q_shl 1 v) else x) 5 0
/-- all views have trees -/
def Vw (m : Int → Int) : Prop := ∀ v, 0 ≤ v → v < 5 → ∃ Lv, TreeD m 48 Lv (ve m v)
theorem mk_bits (b0 b1 b2 b3 b4 : Bool) : let x := q_it (fun v x => if (if v = 0 then b0 else if v = 1 then b1 else if v = 2 then b2 else if v = 3 then b3 else b4) = true then q_or x (q_shl 1 v) else x) 5 0; 0 ≤ x ∧ x < 32 ∧ (q_sg (q_and (q_shr x 0) 1) = 1 ↔ b0 = true) ∧ (q_sg (q_and (q_shr x 1) 1) = 1 ↔ b1 = true) ∧ (q_sg (q_and (q_shr x 2) 1) = 1 ↔ b2 = true) ∧ (q_sg (q_and (q_shr x 3) 1) = 1 ↔ b3 = true) ∧ (q_sg (q_and (q_shr x 4) 1) = 1 ↔ b4 = true) ∧ (x = 0 ↔ b0 = false ∧ b1 = false ∧ b2 = false ∧ b3 = false ∧ b4 = false) := by
  revert b0 b1 b2 b3 b4
  decide
theorem mk_eq (m : Int → Int) (q : Int) : mk m q = q_it (fun v x => if (if v = 0 then iv m 0 q else if v = 1 then iv m 1 q else if v = 2 then iv m 2 q else if v = 3 then iv m 3 q else iv m 4 q) = true then q_or x (q_shl 1 v) else x) 5 0 := by
  unfold mk
  refine q_it_c _ _ (fun k h1 h2 x => ?_)
  have : k = 0 ∨ k = 1 ∨ k = 2 ∨ k = 3 ∨ k = 4 := by omega
  rcases this with e | e | e | e | e <;> subst e <;> rfl
theorem mk_rg (m : Int → Int) (q : Int) : 0 ≤ mk m q ∧ mk m q < 32 := by
  rw [mk_eq]
  have := mk_bits (iv m 0 q) (iv m 1 q) (iv m 2 q) (iv m 3 q) (iv m 4 q)
  exact ⟨this.1, this.2.1⟩
theorem mk_of (m : Int → Int) (q : Int) {v : Int} (h0 : 0 ≤ v) (h1 : v < 5) : q_sg (q_and (q_shr (mk m q) v) 1) = 1 ↔ iv m v q = true := by
  rw [mk_eq]
  obtain ⟨_, _, a0, a1, a2, a3, a4, _⟩ := mk_bits (iv m 0 q) (iv m 1 q) (iv m 2 q) (iv m 3 q) (iv m 4 q)
  have : v = 0 ∨ v = 1 ∨ v = 2 ∨ v = 3 ∨ v = 4 := by omega
  rcases this with e | e | e | e | e <;> subst e <;> assumption
theorem mk_0 (m : Int → Int) (q : Int) : mk m q = 0 ↔ ∀ v, 0 ≤ v → v < 5 → iv m v q = false := by
  rw [mk_eq]
  obtain ⟨_, _, _, _, _, _, _, a⟩ := mk_bits (iv m 0 q) (iv m 1 q) (iv m 2 q) (iv m 3 q) (iv m 4 q)
  refine Iff.trans a ⟨fun ⟨b0, b1, b2, b3, b4⟩ v h0 h1 => ?_, fun h => ⟨h 0 (by decide) (by decide), h 1 (by decide) (by decide), h 2 (by decide) (by decide), h 3 (by decide) (by decide), h 4 (by decide) (by decide)⟩⟩
  have : v = 0 ∨ v = 1 ∨ v = 2 ∨ v = 3 ∨ v = 4 := by omega
  rcases this with e | e | e | e | e <;> subst e <;> assumption
theorem mk_sg (m : Int → Int) (q : Int) : q_sg (mk m q) = mk m q := by
  have := mk_rg m q
  exact q_sg_id (by omega) (by omega)
theorem mk_ofp (m : Int → Int) (q : Int) {v : Int} (h0 : 0 ≤ v) (h1 : v < 5) : (q_sg (q_and (q_shr (mk m q) v) 1) = 1) = (iv m v q = true) := propext (mk_of m q h0 h1)
def SZ (m : Int → Int) (v : Int) : Int := q_S (fun p => q_b (iv m v p = true)) 0 48
