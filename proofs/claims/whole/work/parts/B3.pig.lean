/-! TREES off the disk: no more nodes than numbers for them -/
noncomputable def idz (D : Ar) : Tr → Int → List Int := tr_rec (fun u0_ u1_ u2_ u3_ x => [x]) (fun u0_ n u1_ c r_ x => x :: (List.range n.toNat).flatMap (fun k : Nat => r_ (k : Int) (D.B x (k : Int))))
theorem idz_e1 (D : Ar) (u0_ u1_ : Int) (u2_ : Int → Int) (u3_ : Int → Int) (x : Int) : idz D (.lf u0_ u1_ u2_ u3_) x = ([x]) := rfl
theorem idz_e2 (D : Ar) (u0_ n : Int) (u1_ : Int → Int) (c : Int → Tr) (x : Int) : idz D (.br u0_ n u1_ c) x = (x :: (List.range n.toNat).flatMap (fun k : Nat => idz D (c (k : Int)) (D.B x (k : Int)))) := rfl
section PIG
variable {D : Ar} {t : Tr} {x y : Int}
theorem idz_mem : ∀ {t : Tr} {x : Int}, ∀ y, y ∈ idz D t x ↔ Wi D t x y := by
  intro t
  induction t using Tr_rc with
  | lf p n a b =>
    try dsimp only [Wi_e1, Wi_e2, idz_e1, idz_e2] at *
    intro x y
    simp [idz, Wi]
  | br p n a c ih =>
    try dsimp only [Wi_e1, Wi_e2, idz_e1, idz_e2] at *
    intro x y
    try simp only [idz_e1, idz_e2, Wi_e1, Wi_e2]
    rw [List.mem_cons, List.mem_flatMap]
    constructor
    · rintro (e | ⟨k, hk, hy⟩)
      · exact Or.inl e
      · rw [List.mem_range] at hk
        exact Or.inr ⟨k, by omega, by omega, (ih k y).mp hy⟩
    · rintro (e | ⟨k, k0, k1, hw⟩)
      · exact Or.inl e
      · refine Or.inr ⟨k.toNat, by rw [List.mem_range]; omega, ?_⟩
        rw [show ((k.toNat : Nat) : Int) = k by omega]
        exact (ih k y).mpr hw
theorem idz_nd : ∀ {t : Tr} {x : Int}, Dis D t x → (idz D t x).Nodup := by
  intro t
  induction t using Tr_rc with
  | lf p n a b =>
    try dsimp only [Dis_e1, Dis_e2, idz_e1, idz_e2] at *
    intro x _
    simp [idz]
  | br p n a c ih =>
    try dsimp only [Dis_e1, Dis_e2, idz_e1, idz_e2] at *
    intro x hd
    try simp only [idz_e1, idz_e2]
    rw [List.nodup_cons]
    try dsimp only [Dis_e1, Dis_e2, idz_e1, idz_e2]
    refine ⟨fun hm => ?_, ?_⟩
    · rw [List.mem_flatMap] at hm
      obtain ⟨k, hk, hy⟩ := hm
      rw [List.mem_range] at hk
      exact (hd k (by omega) (by omega)).2.1 ((idz_mem x).mp hy)
    · unfold List.Nodup
      rw [List.pairwise_flatMap]
      try dsimp only [Dis_e1, Dis_e2, idz_e1, idz_e2]
      refine ⟨fun k hk => ?_, ?_⟩
      · rw [List.mem_range] at hk
        exact ih k (hd k (by omega) (by omega)).1
      · refine List.Pairwise.imp_of_mem (R := fun a b => a ≠ b) (fun {k k'} hk hk' hne y hy z hz e => ?_) List.nodup_range
        rw [List.mem_range] at hk hk'
        subst e
        exact (hd k (by omega) (by omega)).2.2 k' (by omega) (by omega) (by omega) y ((idz_mem y).mp hy) ((idz_mem y).mp hz)
theorem fm_len {F : Nat → List Int} : ∀ m : Nat, (((List.range m).flatMap F).length : Int) = smz (fun k => ((F k.toNat).length : Int)) m
  | 0 => rfl
  | m + 1 => by
    rw [List.range_succ, List.flatMap_append, List.length_append]
    have := fm_len (F := F) m
    show ((_ + _ : Nat) : Int) = smz (fun k => ((F k.toNat).length : Int)) m + ((F ((m : Nat) : Int).toNat).length : Int)
    rw [← this]
    simp
theorem idz_len : ∀ {t : Tr} {x : Int}, ((idz D t x).length : Int) = cnt t := by
  intro t
  induction t using Tr_rc with
  | lf p n a b =>
    try dsimp only [idz_e1, idz_e2] at *
    intro x
    rfl
  | br p n a c ih =>
    try dsimp only [idz_e1, idz_e2] at *
    intro x
    try simp only [idz_e1, idz_e2]
    rw [List.length_cons]
    show ((_ + 1 : Nat) : Int) = 1 + smz (fun k => cnt (c k)) n.toNat
    have := fm_len (F := fun k : Nat => idz D (c (k : Int)) (D.B x (k : Int))) n.toNat
    have e : smz (fun k => ((idz D (c ((k.toNat : Nat) : Int)) (D.B x ((k.toNat : Nat) : Int))).length : Int)) n.toNat = smz (fun k => cnt (c k)) n.toNat := smz_c (fun k k0 k1 => by
      show ((idz D (c ((k.toNat : Nat) : Int)) (D.B x ((k.toNat : Nat) : Int))).length : Int) = cnt (c k)
      rw [show ((k.toNat : Nat) : Int) = k by omega]
      exact ih k)
    omega
theorem pigeon {lo : Int} : ∀ (m : Nat) (l : List Int), l.Nodup → (∀ y, y ∈ l → lo ≤ y ∧ y < lo + m) → l.length ≤ m
  | 0, l, hn, h => by
    cases l with
    | nil => exact Nat.le_refl _
    | cons y r =>
      have := h y (List.mem_cons_self ..)
      omega
  | m + 1, l, hn, h => by
    by_cases hm : (lo + m) ∈ l
    · have e := List.length_erase_of_mem hm
      have := pigeon (lo := lo) m (l.erase (lo + m)) (hn.erase _) (fun y hy => by
        have hy' := (List.Nodup.mem_erase_iff hn).mp hy
        have := h y hy'.2
        have := hy'.1
        omega)
      omega
    · have := pigeon (lo := lo) m l hn (fun y hy => by
        have h1 := h y hy
        have : y ≠ lo + m := fun e => hm (e ▸ hy)
        omega)
      omega
theorem cnt_le {lo hi : Int} (hd : Dis D t x) (h : ∀ y, Wi D t x y → lo ≤ y ∧ y < hi) : cnt t ≤ hi - lo := by
  have e := idz_len (D := D) (t := t) (x := x)
  have h1 := h x (Wi_self D t x)
  have := pigeon (lo := lo) (hi - lo).toNat (idz D t x) (idz_nd hd) (fun y hy => by
    have := h y ((idz_mem y).mp hy)
    omega)
  omega
end PIG
