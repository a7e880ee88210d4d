/-! WHICH PAGES are taken, one by one: first those that are free for all, by rising numbers; then beyond what is used -/
abbrev Us (m : Int → Int) (p : Int) : Prop := (FRm m p).toInt ≠ -1 ∧ (FRm m p).toInt ≤ LM m
noncomputable def nu (m : Int → Int) (p : Int) : Int := q_S (fun i => q_b (Us m i)) 0 p
noncomputable def IsT (m : Int → Int) (k p : Int) : Prop := (0 ≤ p ∧ p < 48 ∧ Us m p ∧ nu m p = k) ∨ (nu m 48 ≤ k ∧ p = hc m 3 + (k - nu m 48) ∧ p < 48)
abbrev TK (m : Int → Int) (k p : Int) : Prop := (Us m p ∧ nu m p < k) ∨ (hc m 3 ≤ p ∧ p - hc m 3 < k - nu m 48)
noncomputable def TkI (m : Int → Int) : Prop := (∀ p, Us m p → 2 ≤ p ∧ p < hc m 3) ∧ 2 ≤ hc m 3 ∧ hc m 3 ≤ 48
noncomputable def tp (m : Int → Int) (k : Int) : Int := Classical.epsilon (fun p => IsT m k p)
noncomputable def cap (m : Int → Int) : Int := nu m 48 + (48 - hc m 3)
noncomputable def hgh (m : Int → Int) (k : Int) : Int := hc m 3 + (if nu m 48 < k then k - nu m 48 else 0)
theorem q_S_inc {f g : Int → Int} {lo hi p : Int} (h0 : lo ≤ p) (h1 : p < hi) (hp : g p = f p + 1) (h : ∀ i, lo ≤ i → i < hi → i ≠ p → g i = f i) : q_S g lo hi = q_S f lo hi + 1 := by
  have key : ∀ n : Nat, lo + n ≤ hi → q_S g lo (lo + n) = q_S f lo (lo + n) + (if p < lo + n then 1 else 0) := fun n => by
    induction n with
    | zero =>
      intro _
      rw [show lo + ((0 : Nat) : Int) = lo by omega, q_S_0, q_S_0, if_neg (by omega)]
      rfl
    | succ n ih =>
      intro hn
      rw [show lo + ((n + 1 : Nat) : Int) = lo + (n : Int) + 1 by omega, q_S_1 _ (by omega), q_S_1 _ (by omega), ih (by omega)]
      by_cases e : lo + (n : Int) = p
      · rw [e, hp, if_neg (by omega), if_pos (by omega)]
        omega
      · rw [h _ (by omega) (by omega) e]
        by_cases c : p < lo + (n : Int)
        · rw [if_pos c, if_pos (by omega)]
          omega
        · rw [if_neg c, if_neg (by omega)]
          omega
  have := key (hi - lo).toNat (by omega)
  rw [show lo + (((hi - lo).toNat : Nat) : Int) = hi by omega, if_pos h1] at this
  exact this
section TAK
variable {m : Int → Int} {k p q i j : Int}
theorem nu_0 : nu m 0 = 0 := q_S_0 _ _
theorem nu_1 (h : 0 ≤ p) : nu m (p + 1) = nu m p + q_b (Us m p) := q_S_1 _ h
theorem nu_up (h : 0 ≤ p) (hq : p ≤ q) : nu m p ≤ nu m q := by
  have key : ∀ n : Nat, nu m p ≤ nu m (p + n) := fun n => by
    induction n with
    | zero => simp
    | succ n ih =>
      rw [show p + ((n + 1 : Nat) : Int) = p + (n : Int) + 1 by omega, nu_1 (by omega)]
      have := q_b_01 (Us m (p + (n : Int)))
      omega
  have := key (q - p).toNat
  rw [show p + (((q - p).toNat : Nat) : Int) = q by omega] at this
  exact this
theorem nu_ge (h : 0 ≤ p) : 0 ≤ nu m p := by
  have := nu_up (m := m) (Int.le_refl 0) h
  rw [nu_0] at this
  exact this
theorem nu_le (h : 0 ≤ p) : nu m p ≤ p := by
  have := q_S_bd (f := fun i => q_b (Us m i)) (lo := 0) (hi := p) (a := 0) (b := 1) (fun i _ _ => by have := q_b_01 (Us m i); omega) h
  unfold nu
  omega
theorem nu_lt (h : 0 ≤ p) (hu : Us m p) (hq : p < q) : nu m p < nu m q := by
  have := nu_up (m := m) (p := p + 1) (q := q) (by omega) (by omega)
  rw [nu_1 h, q_bt hu] at this
  omega
theorem nu_inj (h : 0 ≤ p) (h' : 0 ≤ q) (hu : Us m p) (hv : Us m q) (e : nu m p = nu m q) : p = q := by
  rcases Int.lt_trichotomy p q with c | c | c
  · have := nu_lt h hu c
    omega
  · exact c
  · have := nu_lt h' hv c
    omega
theorem nu_ex : ∀ (n : Nat), 0 ≤ k → k < nu m n → ∃ p : Int, 0 ≤ p ∧ p < (n : Int) ∧ Us m p ∧ nu m p = k
  | 0, h0, h1 => by
    have : nu m ((0 : Nat) : Int) = 0 := nu_0
    omega
  | n + 1, h0, h1 => by
    rw [show ((n + 1 : Nat) : Int) = (n : Int) + 1 by omega, nu_1 (by omega)] at h1
    by_cases c : k < nu m n
    · obtain ⟨p, a1, a2, a3, a4⟩ := nu_ex n h0 c
      exact ⟨p, a1, by omega, a3, a4⟩
    · by_cases hu : Us m n
      · rw [q_bt hu] at h1
        exact ⟨n, by omega, by omega, hu, by omega⟩
      · rw [q_bf hu] at h1
        omega
theorem IsT_fun (I : TkI m) (h : IsT m k p) (h' : IsT m k q) : p = q := by
  rcases h with ⟨a1, a2, a3, a4⟩ | ⟨a1, a2, a3⟩ <;> rcases h' with ⟨b1, b2, b3, b4⟩ | ⟨b1, b2, b3⟩
  · exact nu_inj a1 b1 a3 b3 (by omega)
  · have := nu_lt a1 a3 a2
    omega
  · have := nu_lt b1 b3 b2
    omega
  · omega
theorem tp_eq (I : TkI m) (h : IsT m k p) : tp m k = p := IsT_fun I (Classical.epsilon_spec (p := fun p => IsT m k p) ⟨p, h⟩) h
theorem tp_is (h0 : 0 ≤ k) (h1 : k < cap m) : IsT m k (tp m k) := by
  refine Classical.epsilon_spec (p := fun p => IsT m k p) ?_
  by_cases c : k < nu m 48
  · obtain ⟨p, a1, a2, a3, a4⟩ := nu_ex (m := m) (k := k) 48 h0 c
    exact ⟨p, Or.inl ⟨a1, a2, a3, a4⟩⟩
  · unfold cap at h1
    exact ⟨_, Or.inr ⟨by omega, rfl, by omega⟩⟩
theorem IsT_cap (I : TkI m) (h : IsT m k p) : k < cap m ∧ 0 ≤ k := by
  have n0 := nu_ge (m := m) (p := 48) (by omega)
  have := I.2
  unfold cap
  rcases h with ⟨a1, a2, a3, a4⟩ | ⟨a1, a2, a3⟩
  · have := nu_lt a1 a3 a2
    have := nu_ge (m := m) a1
    omega
  · omega
theorem IsT_rg (I : TkI m) (h : IsT m k p) : 2 ≤ p ∧ p < 48 := by
  have := I.2
  rcases h with ⟨a1, a2, a3, a4⟩ | ⟨a1, a2, a3⟩
  · have := I.1 p a3
    omega
  · omega
theorem TK_0 (I : TkI m) : ¬ TK m 0 q := by
  have n0 := nu_ge (m := m) (p := 48) (by omega)
  rintro (⟨a1, a2⟩ | ⟨a1, a2⟩)
  · have := I.1 q a1
    have := nu_ge (m := m) (p := q) (by omega)
    omega
  · omega
theorem TK_1 (I : TkI m) (h : IsT m k p) : TK m (k + 1) q ↔ TK m k q ∨ q = p := by
  have n0 := nu_ge (m := m) (p := 48) (by omega)
  have i2 := I.2
  unfold TK
  constructor
  · rintro (⟨a1, a2⟩ | ⟨a1, a2⟩)
    · by_cases c : nu m q < k
      · exact Or.inl (Or.inl ⟨a1, c⟩)
      · have r := I.1 q a1
        exact Or.inr (IsT_fun I (Or.inl ⟨by omega, by omega, a1, by omega⟩) h)
    · by_cases c : q - hc m 3 < k - nu m 48
      · exact Or.inl (Or.inr ⟨a1, c⟩)
      · rcases h with ⟨b1, b2, b3, b4⟩ | ⟨b1, b2, b3⟩
        · have := nu_lt b1 b3 b2
          omega
        · exact Or.inr (by omega)
  · rintro ((⟨a1, a2⟩ | ⟨a1, a2⟩) | e)
    · exact Or.inl ⟨a1, by omega⟩
    · exact Or.inr ⟨a1, by omega⟩
    · subst e
      rcases h with ⟨b1, b2, b3, b4⟩ | ⟨b1, b2, b3⟩
      · exact Or.inl ⟨b3, by omega⟩
      · exact Or.inr ⟨by omega, by omega⟩
theorem TK_not (I : TkI m) (h : IsT m k p) : ¬ TK m k p := by
  have n0 := nu_ge (m := m) (p := 48) (by omega)
  rintro (⟨a1, a2⟩ | ⟨a1, a2⟩)
  · have r := I.1 p a1
    rcases h with ⟨b1, b2, b3, b4⟩ | ⟨b1, b2, b3⟩ <;> omega
  · rcases h with ⟨b1, b2, b3, b4⟩ | ⟨b1, b2, b3⟩
    · have r := I.1 p b3
      omega
    · omega
theorem TK_ex (I : TkI m) (hk : k ≤ cap m) (h0 : 0 ≤ k) : TK m k q ↔ ∃ i, 0 ≤ i ∧ i < k ∧ q = tp m i := by
  have key : ∀ n : Nat, (n : Int) ≤ cap m → (TK m n q ↔ ∃ i, 0 ≤ i ∧ i < (n : Int) ∧ q = tp m i) := fun n => by
    induction n with
    | zero =>
      intro _
      exact ⟨fun h => absurd h (TK_0 I), fun ⟨i, i0, i1, _⟩ => by omega⟩
    | succ n ih =>
      intro hn
      rw [show ((n + 1 : Nat) : Int) = (n : Int) + 1 by omega, TK_1 I (tp_is (by omega) (by omega)), ih (by omega)]
      constructor
      · rintro (⟨i, i0, i1, e⟩ | e)
        · exact ⟨i, i0, by omega, e⟩
        · exact ⟨n, by omega, by omega, e⟩
      · rintro ⟨i, i0, i1, e⟩
        by_cases c : i = n
        · subst c
          exact Or.inr e
        · exact Or.inl ⟨i, i0, by omega, e⟩
  have := key k.toNat (by omega)
  rw [show ((k.toNat : Nat) : Int) = k by omega] at this
  exact this
theorem tp_inj (I : TkI m) (h0 : 0 ≤ i) (h1 : i < j) (h2 : j < cap m) : tp m i ≠ tp m j := fun e => by
  refine TK_not I (tp_is (k := j) (by omega) h2) ?_
  rw [← e, TK_ex I (by omega) (by omega)]
  exact ⟨i, h0, h1, rfl⟩
theorem tp_inj' (I : TkI m) (i0 : 0 ≤ i) (i1 : i < cap m) (j0 : 0 ≤ j) (j1 : j < cap m) (e : tp m i = tp m j) : i = j := by
  rcases Int.lt_trichotomy i j with c | c | c
  · exact absurd e (tp_inj I i0 c j1)
  · exact c
  · exact absurd e.symm (tp_inj I j0 c i1)
theorem tp_rg (I : TkI m) (i0 : 0 ≤ i) (i1 : i < cap m) : 2 ≤ tp m i ∧ tp m i < 48 := IsT_rg I (tp_is i0 i1)
theorem TK_rg (I : TkI m) (hk : k ≤ cap m) (h0 : 0 ≤ k) (h : TK m k q) : 2 ≤ q ∧ q < 48 ∧ q < hgh m k := by
  have i2 := I.2
  have n0 := nu_ge (m := m) (p := 48) (by omega)
  have r : 2 ≤ q ∧ q < 48 := by
    obtain ⟨i, i0, i1, e⟩ := (TK_ex I hk h0).mp h
    rw [e]
    exact tp_rg I i0 (by omega)
  refine ⟨r.1, r.2, ?_⟩
  unfold hgh
  rcases h with ⟨a1, a2⟩ | ⟨a1, a2⟩
  · have := I.1 q a1
    split <;> omega
  · rw [if_pos (by omega)]
    omega
theorem hgh_1 (h : IsT m k p) : hgh m (k + 1) = if nu m 48 ≤ k then hgh m k + 1 else hgh m k := by
  unfold hgh
  by_cases c : nu m 48 ≤ k
  · rw [if_pos c, if_pos (by omega)]
    split <;> omega
  · rw [if_neg c, if_neg (by omega), if_neg (by omega)]
theorem hgh_0 : hgh m 0 = hc m 3 := by
  have n0 := nu_ge (m := m) (p := 48) (by omega)
  unfold hgh
  rw [if_neg (by omega)]
  omega
/-- so many are taken -/
theorem TK_cnt (I : TkI m) (hk : k ≤ cap m) (h0 : 0 ≤ k) : q_S (fun p => q_b (TK m k p)) 0 48 = k := by
  have key : ∀ n : Nat, (n : Int) ≤ cap m → q_S (fun p => q_b (TK m n p)) 0 48 = n := fun n => by
    induction n with
    | zero =>
      intro _
      have : q_S (fun p => q_b (TK m ((0 : Nat) : Int) p)) 0 48 = q_S (fun _ => 0) 0 48 := q_S_c (fun i _ _ => q_bf (TK_0 I))
      rw [this]
      rfl
    | succ n ih =>
      intro hn
      have it := tp_is (m := m) (k := n) (by omega) (by omega)
      have r := IsT_rg I it
      rw [q_S_inc (f := fun p => q_b (TK m n p)) (p := tp m n) (by omega) (by omega) ?_ (fun i i0 i1 hi => ?_), ih (by omega)]
      · omega
      · show q_b (TK m ((n + 1 : Nat) : Int) (tp m n)) = q_b (TK m n (tp m n)) + 1
        rw [q_bf (TK_not I it), show ((n + 1 : Nat) : Int) = (n : Int) + 1 by omega, q_bt ((TK_1 I it).mpr (Or.inr rfl))]
        rfl
      · show q_b (TK m ((n + 1 : Nat) : Int) i) = q_b (TK m n i)
        rw [show ((n + 1 : Nat) : Int) = (n : Int) + 1 by omega]
        exact q_b_c ((TK_1 I it).trans ⟨fun e => e.elim id (fun e => absurd e hi), Or.inl⟩)
  have := key k.toNat (by omega)
  rw [show ((k.toNat : Nat) : Int) = k by omega] at this
  exact this
/-- so many of those that are free for all -/
theorem Us_cnt (I : TkI m) (h0 : 0 ≤ k) : q_S (fun p => q_b (Us m p ∧ nu m p < k)) 0 48 = if k < nu m 48 then k else nu m 48 := by
  have key : ∀ n : Nat, (n : Int) ≤ nu m 48 → q_S (fun p => q_b (Us m p ∧ nu m p < n)) 0 48 = n := fun n => by
    induction n with
    | zero =>
      intro _
      have : q_S (fun p => q_b (Us m p ∧ nu m p < ((0 : Nat) : Int))) 0 48 = q_S (fun _ => 0) 0 48 := q_S_c (fun i i0 _ => q_bf (fun e => by have := nu_ge (m := m) i0; omega))
      rw [this]
      rfl
    | succ n ih =>
      intro hn
      obtain ⟨p, p0, p1, p2, p3⟩ := nu_ex (m := m) (k := n) 48 (by omega) (by show (n : Int) < nu m 48; omega)
      rw [q_S_inc (f := fun p => q_b (Us m p ∧ nu m p < n)) (lo := 0) (hi := 48) (p := p) p0 p1 ?_ (fun i i0 i1 hi => ?_), ih (by omega)]
      · omega
      · show q_b (Us m p ∧ nu m p < ((n + 1 : Nat) : Int)) = q_b (Us m p ∧ nu m p < n) + 1
        rw [q_bt (p := Us m p ∧ nu m p < ((n + 1 : Nat) : Int)) ⟨p2, by omega⟩, q_bf (p := Us m p ∧ nu m p < (n : Int)) (fun q => by omega)]
        rfl
      · refine q_b_c ⟨fun e => ⟨e.1, ?_⟩, fun e => ⟨e.1, by omega⟩⟩
        by_cases c : nu m i = n
        · exact absurd (nu_inj i0 p0 e.1 p2 (by omega)) hi
        · omega
  split
  · have := key k.toNat (by omega)
    rw [show ((k.toNat : Nat) : Int) = k by omega] at this
    exact this
  · have n0 := nu_ge (m := m) (p := 48) (by omega)
    have := key (nu m 48).toNat (by omega)
    rw [show (((nu m 48).toNat : Nat) : Int) = nu m 48 by omega] at this
    rw [← this]
    refine q_S_c (fun i i0 i1 => q_b_c ⟨fun e => ⟨e.1, ?_⟩, fun e => ⟨e.1, by omega⟩⟩)
    have := nu_lt i0 e.1 i1
    omega
end TAK
