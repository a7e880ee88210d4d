/-! A PLAN: what it begins with, and its changes one by one -/
noncomputable def St0 (m : Int → Int) (T : Option Tr) (Lv : Int → Prop) : Prop := PTo T ∧ (T = none → hc m 1 = -1 ∧ ∀ p, ¬ Lv p) ∧ (∀ t, T = some t → Sub (dk m) (hc m 3) t (hc m 1) ∧ ∀ q, Wi (dk m) t (hc m 1) q ↔ Lv q)
/-- the disk's tree and list, told apart -/
noncomputable def Dsk (m : Int → Int) (Lv : Int → Prop) : Prop := (∀ p, Lv p → 2 ≤ p ∧ p < hc m 3 ∧ p ∉ SLs m ∧ ∀ n, ¬ Lst m (SLs m) p n) ∧ ∀ r, 0 ≤ r → r < 4 → m (9 + 2 * r) ≠ -1 → 0 ≤ m (9 + 2 * r) ∧ m (9 + 2 * r) ≤ hc m 0 ∧ ∃ Lr : Int → Prop, TreeD m (hc m 3) Lr (m (10 + 2 * r)) ∧ ∀ p, Lr p → Lv p ∨ ∃ n, m (9 + 2 * r) < n ∧ Lst m (SLs m) p n
section STA
variable {m : Int → Int} {b : Int} {Lv : Int → Prop}
theorem inv_sl (I : Inv m b) : ∃ sl, SLs m = sl ∧ ListD m sl ∧ ∃ Lv : Int → Prop, TreeD m (hc m 3) Lv (hc m 1) ∧ (∀ p, Lv p → p ∉ sl ∧ ∀ n, ¬ Lst m sl p n) ∧ ∀ r, 0 ≤ r → r < 4 → m (9 + 2 * r) ≠ -1 → 0 ≤ m (9 + 2 * r) ∧ m (9 + 2 * r) ≤ hc m 0 ∧ ∃ Lr : Int → Prop, TreeD m (hc m 3) Lr (m (10 + 2 * r)) ∧ ∀ p, Lr p → Lv p ∨ ∃ n, m (9 + 2 * r) < n ∧ Lst m sl p n := by
  obtain ⟨⟨_, P, _, ⟨h0, h1, h2, h48⟩, Lv, sl, T, Ld, Dj, Rd⟩, _, _, _⟩ := I
  have c1 := Ld.1
  have c2 := Ld.2.1
  have hm := Chn_mem sl _ c1
  have hl : sl.length ≤ 46 := by
    have := nodup_len 46 (sl.map (fun x => x - 2)) (List.Pairwise.map _ (fun a b hab => fun e => hab (by omega)) c2) (fun x hx => by
      obtain ⟨y, hy, e⟩ := List.mem_map.mp hx
      have := hm y hy
      omega)
    simpa using this
  have e : SLs m = sl := chx_eq sl 48 _ c1 (by omega)
  exact ⟨sl, e, Ld, Lv, T, Dj, Rd⟩
theorem st_ex (I : Inv m b) : ∃ T Lv, St0 m T Lv ∧ Dsk m Lv := by
  obtain ⟨sl, e, Ld, Lv, T, Dj, Rd⟩ := inv_sl I
  by_cases hr : hc m 1 = -1
  · have nl : ∀ p, ¬ Lv p := by
      rcases T with ⟨-, h⟩ | ⟨n, ht, hb, hn, T, Od, h2⟩
      · exact h
      · have := (T.2.1 _ T.1.1).1
        omega
    refine ⟨none, Lv, ⟨trivial, fun _ => ⟨hr, nl⟩, fun t h => absurd h (by simp)⟩, fun p hp => absurd hp (nl p), ?_⟩
    rw [e]
    exact Rd
  · obtain ⟨t, h, h12, S, o, hz, w⟩ := TreeD_tr T hr
    refine ⟨some t, Lv, ⟨⟨h, h12, o, hz⟩, fun h => absurd h (by simp), fun t' h' => ?_⟩, fun p hp => ?_, ?_⟩
    · have := Option.some.inj h'
      subst this
      exact ⟨S, w⟩
    · have := S.2.2 p ((w p).mpr hp)
      rw [e]
      exact ⟨this.1, this.2, Dj p hp⟩
    · rw [e]
      exact Rd
theorem inv_tk (I : Inv m b) (hb : b < 2147483648) : TkI m := by
  have Hl := inv_ls I hb
  refine ⟨fun p hp => ?_, I.1.2.2.2.1.2.2.1, I.1.2.2.2.1.2.2.2⟩
  rcases fr_cases Hl p with ⟨q, -⟩ | ⟨n, q1, q2, q3, q4, q5, q6, q7, q8⟩
  · exact absurd q hp.1
  · exact ⟨q5, q6⟩
theorem inv_si (I : Inv m b) (hb : b < 2147483648) : SlI m := by
  have Hl := inv_ls I hb
  obtain ⟨sl, e, Ld, -⟩ := inv_sl I
  intro p hp
  have hm := Chn_mem _ _ Hl.1 p hp
  have h3 : p < hc m 3 := Ld.2.2.1 p (e ▸ hp)
  rcases fr_cases Hl p with ⟨q, -⟩ | ⟨n, q1, q2, q3, q4, q5, q6, q7, q8⟩
  · exact ⟨hm.1, h3, q⟩
  · exact absurd hp q7
theorem lf_i (I : Inv m b) (hb : b < 2147483648) (D : Dsk m Lv) {Lf : Int → Prop} (h : ∀ p, Lf p → Lv p) : LfI m Lf := by
  have Hl := inv_ls I hb
  intro p hp
  obtain ⟨d1, d2, d3, d4⟩ := D.1 p (h p hp)
  rcases fr_cases Hl p with ⟨q, -⟩ | ⟨n, q1, q2, q3, q4, q5, q6, q7, q8⟩
  · exact ⟨d1, d2, q, d3⟩
  · exact absurd q1 (d4 n)
end STA
/-! the changes one by one -/
noncomputable def dTs (T : Option Tr) (ks vs : Int → Int) : Nat → Option Tr
  | 0 => T
  | i + 1 => dT (ks i) (vs i) (dTs T ks vs i)
noncomputable def dLs (T : Option Tr) (ks vs : Int → Int) : Nat → Int → Prop
  | 0, _ => False
  | i + 1, z => dLs T ks vs i z ∨ dL (ks i) (vs i) (dTs T ks vs i) z
noncomputable def dAs (T : Option Tr) (ks vs : Int → Int) : Nat → Prop
  | 0 => False
  | i + 1 => dAs T ks vs i ∨ dA (ks i) (vs i) (dTs T ks vs i)
section CHS
variable {m : Int → Int} {b : Int} {Lv : Int → Prop} {T : Option Tr} {ks vs : Int → Int} {D : Ar}
theorem DPo_of {N x : Int} (h : ∀ t, T = some t → Sub D N t x) : DPo T := by
  cases T with
  | none => trivial
  | some t => exact DPg_of (h t rfl).1 (h t rfl).2.1
theorem pot_st (P : PTo T) (hc : ∀ t, T = some t → cnt t ≤ 46) : pot 0 T ≤ 92 ∧ pot 1 T ≤ 138 := by
  cases T with
  | none => exact ⟨by show (0 : Int) ≤ 92; omega, by show (0 : Int) ≤ 138; omega⟩
  | some t =>
    obtain ⟨h, h12, o, hz⟩ := P
    have c := hc t rfl
    have a := tw_le3 (q := 0) (Or.inl rfl) o
    have b := tw_le3 (q := 1) (Or.inr rfl) o
    have e0 : pot 0 (some t) = tw (wt 0) t := rfl
    have e1 : pot 1 (some t) = tw (wt 1) t := rfl
    omega
theorem st_cnt (S : St0 m T Lv) (h48 : hc m 3 ≤ 48) : ∀ t, T = some t → cnt t ≤ 46 := fun t ht => by
  have := cnt_le (S.2.2 t ht).1.2.1 (S.2.2 t ht).1.2.2
  omega
/-- at the beginning none is left -/
theorem st_LfP (S : St0 m T Lv) : LfP Lv T (fun _ => False) := by
  intro z
  refine ⟨?_, fun _ h => h⟩
  cases T with
  | none => exact ⟨fun h => absurd h ((S.2.1 rfl).2 z), fun h => h.elim False.elim False.elim⟩
  | some t =>
    obtain ⟨s1, s2⟩ := S.2.2 t rfl
    rw [← s2 z]
    constructor
    · intro w
      refine Or.inl (Wi_PG s1.1 w rfl ?_)
      have := s1.2.2 z w
      omega
    · rintro (h | h)
      · exact (PG_Wi s1.1 h).1
      · exact False.elim h
theorem st_old (S : St0 m T Lv) (h48 : hc m 3 ≤ 48) : OldO (dk m) T := by
  cases T with
  | none => trivial
  | some t =>
    obtain ⟨s1, s2⟩ := S.2.2 t rfl
    exact Old_sub (fun _ => rfl) ⟨s1.1, s1.2.1, fun y hy => by have := s1.2.2 y hy; omega⟩
end CHS
