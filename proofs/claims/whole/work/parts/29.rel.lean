/-! WHAT HOLDS between calls: a state in the reference's row m, the class's state at the cells q .. q + 13 -/
def pg (m : Int → Int) (p w : Int) : Int := m (281 + 16 * p + w)
theorem q_sg_pg (s : Nat → Int → Int32) (k : Nat) (p w : Int) : q_sg (pg (q_g s k) p w) = pg (q_g s k) p w := q_sg_g s k _
theorem q_pg_rg (s : Nat → Int → Int32) (k : Nat) (p w : Int) : -2147483648 ≤ pg (q_g s k) p w ∧ pg (q_g s k) p w < 2147483648 := q_g_rg s k _
/-- the page of the head, and what it tells -/
def hd (m : Int → Int) : Int := if m 281 ≠ 4 then 1 else if m 297 = 4 ∧ m 285 < m 301 then 1 else 0
def hc (m : Int → Int) (w : Int) : Int := pg m (hd m) (4 + w)
theorem hd_01 (m : Int → Int) : 0 ≤ hd m ∧ hd m ≤ 1 := by
  unfold hd
  repeat' split
  all_goals omega
theorem q_sg_hc (s : Nat → Int → Int32) (k : Nat) (w : Int) : q_sg (hc (q_g s k) w) = hc (q_g s k) w := q_sg_g s k _
theorem q_hc_rg (s : Nat → Int → Int32) (k : Nat) (w : Int) : -2147483648 ≤ hc (q_g s k) w ∧ hc (q_g s k) w < 2147483648 := q_g_rg s k _
/-- a tree of nodes: kinds, rows, keys (or leasts), values (or children); which nodes are of it, how high each stands -/
def Tree (K R : Int → Int) (A B : Int → Int → Int) (top : Int) (Lv : Int → Prop) (ht : Int → Nat) (n : Nat) (r : Int) : Prop :=
  (Lv r ∧ ht r = n) ∧
  (∀ p, Lv p → 2 ≤ p ∧ p < top ∧ ht p ≤ n ∧ 1 ≤ R p ∧ R p ≤ 4) ∧
  (∀ p, Lv p → ht p = 0 → K p = 1 ∧ ∀ k, 0 ≤ k → k < R p → 0 ≤ A p k ∧ A p k < 100 ∧ 0 ≤ B p k ∧ B p k < 100) ∧
  (∀ p, Lv p → 0 < ht p → K p = 2 ∧ ∀ k, 0 ≤ k → k < R p → Lv (B p k) ∧ ht (B p k) + 1 = ht p ∧ A p k = A (B p k) 0) ∧
  (∀ p p' k k', Lv p → Lv p' → 0 < ht p → 0 < ht p' → 0 ≤ k → k < R p → 0 ≤ k' → k' < R p' → B p k = B p' k' → p = p' ∧ k = k') ∧
  (∀ p, Lv p → p = r ∨ ∃ p' k, Lv p' ∧ 0 < ht p' ∧ 0 ≤ k ∧ k < R p' ∧ B p' k = p)
/-- keys rise: hb is more than all keys of a node -/
def Ordd (R : Int → Int) (A B : Int → Int → Int) (Lv : Int → Prop) (ht : Int → Nat) (hb : Int → Int) : Prop :=
  (∀ p, Lv p → hb p ≤ 100 ∧ 0 ≤ A p 0) ∧
  (∀ p, Lv p → ht p = 0 → (∀ k, 0 ≤ k → k + 1 < R p → A p k < A p (k + 1)) ∧ A p (R p - 1) < hb p) ∧
  (∀ p, Lv p → 0 < ht p → (∀ k, 0 ≤ k → k + 1 < R p → hb (B p k) ≤ A p (k + 1)) ∧ hb (B p (R p - 1)) ≤ hb p)
/-- the tree at a page r of the disk, or none; its root is no branch of one -/
def TreeD (m : Int → Int) (top : Int) (Lv : Int → Prop) (r : Int) : Prop :=
  (r = -1 ∧ ∀ p, ¬ Lv p) ∨ ∃ (n : Nat) (ht : Int → Nat) (hb : Int → Int), n ≤ 12 ∧ Tree (fun p => pg m p 0) (fun p => pg m p 1) (fun p k => pg m p (4 + k)) (fun p k => pg m p (10 + k)) top Lv ht n r ∧ Ordd (fun p => pg m p 1) (fun p k => pg m p (4 + k)) (fun p k => pg m p (10 + k)) Lv ht hb ∧ (pg m r 0 = 2 → 2 ≤ pg m r 1)
/-- slips, one behind the other -/
def Chn (m : Int → Int) : List Int → Int → Prop
  | [], x => x = -1
  | y :: r, x => x = y ∧ 2 ≤ y ∧ y < 48 ∧ pg m y 0 = 3 ∧ Chn m r (pg m y 3)
/-- the list: its slips, and that page p is free by number n -/
def Lst (m : Int → Int) (sl : List Int) (p n : Int) : Prop := ∃ y, y ∈ sl ∧ ∃ k, 0 ≤ k ∧ k < pg m y 1 ∧ pg m y (4 + k) = p ∧ pg m y (10 + k) = n
def ListD (m : Int → Int) (sl : List Int) : Prop :=
  Chn m sl (hc m 2) ∧ sl.Nodup ∧ (∀ y, y ∈ sl → y < hc m 3) ∧
  (∀ p n, Lst m sl p n → 2 ≤ p ∧ p < hc m 3 ∧ 0 ≤ n ∧ n ≤ hc m 0 ∧ p ∉ sl) ∧
  (∀ y y' k k', y ∈ sl → y' ∈ sl → 0 ≤ k → k < pg m y 1 → 0 ≤ k' → k' < pg m y' 1 → pg m y (4 + k) = pg m y' (4 + k') → y = y' ∧ k = k')
/-- the disk, with the greatest number that a head may have -/
def DiskI (m : Int → Int) (b : Int) : Prop :=
  ((pg m 0 0 = 4 ∨ pg m 0 0 = 5) ∧ (pg m 1 0 = 4 ∨ pg m 1 0 = 5) ∧ pg m (hd m) 0 = 4 ∧ pg m 0 1 = 0 ∧ pg m 1 1 = 0) ∧
  (∀ p, 2 ≤ p → p < 48 → (pg m p 0 = 0 ∨ pg m p 0 = 1 ∨ pg m p 0 = 2 ∨ pg m p 0 = 3 ∨ pg m p 0 = 5) ∧ 0 ≤ pg m p 1 ∧ pg m p 1 ≤ 6 ∧ (pg m p 0 = 0 ∨ pg m p 0 = 5 → pg m p 1 = 0) ∧ (pg m p 0 = 1 ∨ pg m p 0 = 2 → 1 ≤ pg m p 1 ∧ pg m p 1 ≤ 4)) ∧
  (∀ p, 0 ≤ p → p < 48 → 0 ≤ pg m p 2 ∧ pg m p 2 ≤ 9999 ∧ (pg m p 0 ≠ 3 → pg m p 3 = -1)) ∧
  (0 ≤ hc m 0 ∧ hc m 0 ≤ b ∧ 2 ≤ hc m 3 ∧ hc m 3 ≤ 48) ∧
  ∃ (Lv : Int → Prop) (sl : List Int), TreeD m (hc m 3) Lv (hc m 1) ∧ ListD m sl ∧ (∀ p, Lv p → p ∉ sl ∧ ∀ n, ¬ Lst m sl p n) ∧
    ∀ r, 0 ≤ r → r < 4 → m (9 + 2 * r) ≠ -1 → 0 ≤ m (9 + 2 * r) ∧ m (9 + 2 * r) ≤ hc m 0 ∧ ∃ Lr : Int → Prop, TreeD m (hc m 3) Lr (m (10 + 2 * r)) ∧ ∀ p, Lr p → Lv p ∨ ∃ n, m (9 + 2 * r) < n ∧ Lst m sl p n
/-- all of a state -/
def Inv (m : Int → Int) (b : Int) : Prop :=
  DiskI m b ∧
  (0 ≤ m 8 ∧ m 8 ≤ 12 ∧ ∀ k, 0 ≤ k → k < m 8 → 0 ≤ m (17 + 2 * k) ∧ m (17 + 2 * k) < 100 ∧ 0 ≤ m (18 + 2 * k) ∧ m (18 + 2 * k) ≤ 100) ∧
  (0 ≤ m 0 ∧ m 0 ≤ 12 ∧ 0 ≤ m 3 ∧ m 3 ≤ 100 ∧ 0 ≤ m 4 ∧ m 4 ≤ 99999 ∧ 0 ≤ m 5 ∧ m 5 ≤ 9999 ∧ 0 ≤ m 6 ∧ m 6 ≤ 60) ∧
  ∀ r, 0 ≤ r → r < 4 → -1 ≤ m (9 + 2 * r)
/-- the class's state tells the same -/
def RB (m : Int → Int) (s : Nat → Int → Int32) (q : Nat) : Prop :=
  (∀ p, 0 ≤ p → p < 48 → q_g s (q + 2) p = pg m p 0 ∧ q_g s (q + 3) p = pg m p 1 ∧ q_g s (q + 4) p = pg m p 2 ∧ q_g s (q + 5) p = pg m p 3 ∧ ∀ k, 0 ≤ k → k < pg m p 1 → q_g s (q + 6) (p * 6 + k) = pg m p (4 + k) ∧ q_g s (q + 7) (p * 6 + k) = pg m p (10 + k)) ∧
  (∀ h, 0 ≤ h → h < 2 → pg m h 0 = 4 → ∀ w, 0 ≤ w → w < 4 → q_g s (q + 8) (h * 4 + w) = pg m h (4 + w)) ∧
  (∀ r, 0 ≤ r → r < 4 → q_g s (q + 9) r = m (9 + 2 * r) ∧ (m (9 + 2 * r) ≠ -1 → q_g s (q + 10) r = m (10 + 2 * r)) ∧ (m (9 + 2 * r) = -1 → q_g s (q + 10) r = -1)) ∧
  (q_g s q 5 = m 8 ∧ ∀ k, 0 ≤ k → k < m 8 → q_g s (q + 11) k = m (17 + 2 * k) ∧ q_g s (q + 12) k = m (18 + 2 * k)) ∧
  (q_g s q 6 = m 3 ∧ q_g s q 7 = m 4 ∧ q_g s q 8 = m 5 ∧ q_g s q 9 = m 7 ∧ q_g s q 10 = m 0 ∧ q_g s q 12 = m 6) ∧
  (0 ≤ q_g s q 13 ∧ q_g s q 13 < 60) ∧ ∀ a w, 0 ≤ a → a < m 6 → 0 ≤ w → w < 4 → q_g s (q + 13) (((q_g s q 13 - 1 - a) % 60) * 4 + w) = m (41 + 4 * a + w)
section RBL
variable {m : Int → Int} {s : Nat → Int → Int32}
theorem rb_kind (H : RB m s 7) {p : Int} (h1 : 0 ≤ p) (h2 : p < 48) : q_g s 9 p = pg m p 0 := (H.1 p h1 h2).1
theorem rb_size (H : RB m s 7) {p : Int} (h1 : 0 ≤ p) (h2 : p < 48) : q_g s 10 p = pg m p 1 := (H.1 p h1 h2).2.1
theorem rb_wear (H : RB m s 7) {p : Int} (h1 : 0 ≤ p) (h2 : p < 48) : q_g s 11 p = pg m p 2 := (H.1 p h1 h2).2.2.1
theorem rb_next (H : RB m s 7) {p : Int} (h1 : 0 ≤ p) (h2 : p < 48) : q_g s 12 p = pg m p 3 := (H.1 p h1 h2).2.2.2.1
theorem rb_first (H : RB m s 7) {p k : Int} (h1 : 0 ≤ p) (h2 : p < 48) (h3 : 0 ≤ k) (h4 : k < pg m p 1) : q_g s 13 (p * 6 + k) = pg m p (4 + k) := ((H.1 p h1 h2).2.2.2.2 k h3 h4).1
theorem rb_second (H : RB m s 7) {p k : Int} (h1 : 0 ≤ p) (h2 : p < 48) (h3 : 0 ≤ k) (h4 : k < pg m p 1) : q_g s 14 (p * 6 + k) = pg m p (10 + k) := ((H.1 p h1 h2).2.2.2.2 k h3 h4).2
theorem rb_head (H : RB m s 7) {h w : Int} (h1 : 0 ≤ h) (h2 : h < 2) (hk : pg m h 0 = 4) (h3 : 0 ≤ w) (h4 : w < 4) : q_g s 15 (h * 4 + w) = pg m h (4 + w) := H.2.1 h h1 h2 hk w h3 h4
theorem rb_rv (H : RB m s 7) {r : Int} (h1 : 0 ≤ r) (h2 : r < 4) : q_g s 16 r = m (9 + 2 * r) := (H.2.2.1 r h1 h2).1
theorem rb_rt (H : RB m s 7) {r : Int} (h1 : 0 ≤ r) (h2 : r < 4) (h3 : m (9 + 2 * r) ≠ -1) : q_g s 17 r = m (10 + 2 * r) := (H.2.2.1 r h1 h2).2.1 h3
theorem rb_rtn (H : RB m s 7) {r : Int} (h1 : 0 ≤ r) (h2 : r < 4) (h3 : m (9 + 2 * r) = -1) : q_g s 17 r = -1 := (H.2.2.1 r h1 h2).2.2 h3
theorem rb_chg (H : RB m s 7) : q_g s 7 5 = m 8 := H.2.2.2.1.1
theorem rb_ck (H : RB m s 7) {k : Int} (h1 : 0 ≤ k) (h2 : k < m 8) : q_g s 18 k = m (17 + 2 * k) := (H.2.2.2.1.2 k h1 h2).1
theorem rb_cv (H : RB m s 7) {k : Int} (h1 : 0 ≤ k) (h2 : k < m 8) : q_g s 19 k = m (18 + 2 * k) := (H.2.2.2.1.2 k h1 h2).2
theorem rb_risk (H : RB m s 7) : q_g s 7 6 = m 3 := H.2.2.2.2.1.1
theorem rb_cost (H : RB m s 7) : q_g s 7 7 = m 4 := H.2.2.2.2.1.2.1
theorem rb_tick (H : RB m s 7) : q_g s 7 8 = m 5 := H.2.2.2.2.1.2.2.1
theorem rb_seed (H : RB m s 7) : q_g s 7 9 = m 7 := H.2.2.2.2.1.2.2.2.1
theorem rb_texts (H : RB m s 7) : q_g s 7 10 = m 0 := H.2.2.2.2.1.2.2.2.2.1
theorem rb_logn (H : RB m s 7) : q_g s 7 12 = m 6 := H.2.2.2.2.1.2.2.2.2.2
theorem rb_lnx (H : RB m s 7) : 0 ≤ q_g s 7 13 ∧ q_g s 7 13 < 60 := H.2.2.2.2.2.1
theorem rb_log (H : RB m s 7) {a w : Int} (h1 : 0 ≤ a) (h2 : a < m 6) (h3 : 0 ≤ w) (h4 : w < 4) : q_g s 20 (((q_g s 7 13 - 1 - a) % 60) * 4 + w) = m (41 + 4 * a + w) := H.2.2.2.2.2.2 a w h1 h2 h3 h4
end RBL
