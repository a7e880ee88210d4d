/-! ROWS of nodes, of both -/
noncomputable def dQ (q : Nat) (fr : Int → Int) (s : Nat → Int → Int32) : Ar := ⟨q_g s q, q_g s (q + 1), fun x k => q_g s (q + 2) (6 * x + k), fun x k => q_g s (q + 3) (6 * x + k), fr⟩
theorem dC_Q (s : Nat → Int → Int32) : dC s = dQ 243 (q_g s 247) s := rfl
noncomputable def dM (s : Nat → Int → Int32) : Ar := dQ 294 (fun x => if x < 48 then 0 else 1) s
section RWS
variable {s t : Nat → Int → Int32} {q : Nat} {fr fr' : Int → Int} {F : Int → Int32} {y z p r k v w : Int}
theorem insf_same {v : Int32} (p0 : 0 ≤ p) (k0 : 0 ≤ k) (k1 : k ≤ r) : (insf F (6 * y + p) (6 * y + r) v (6 * y + k)).toInt = inz (fun k => (F (6 * y + k)).toInt) p v.toInt k := by
  unfold insf
  by_cases c1 : k < p
  · rw [inz_lt c1, if_neg (by omega), if_neg (by omega)]
  · by_cases c2 : k = p
    · rw [inz_eq c2, if_pos (by omega)]
    · rw [inz_gt (by omega), if_neg (by omega), if_pos (by omega), show 6 * y + k - 1 = 6 * y + (k - 1) by omega]
theorem insf_other {v : Int32} (h : z ≠ y) (p0 : 0 ≤ p) (r1 : r ≤ 5) (p1 : p ≤ 5) (k0 : 0 ≤ k) (k1 : k < 6) : insf F (6 * y + p) (6 * y + r) v (6 * z + k) = F (6 * z + k) := by
  unfold insf
  rw [if_neg (by omega), if_neg (by omega)]
theorem delf_same (p0 : 0 ≤ p) (k0 : 0 ≤ k) (k1 : k < r - 1) : (delf F (6 * y + p) (6 * y + r - 1) (6 * y + k)).toInt = dlz (fun k => (F (6 * y + k)).toInt) p k := by
  unfold delf
  by_cases c1 : k < p
  · rw [dlz_lt c1, if_neg (by omega)]
  · rw [dlz_ge (by omega), if_pos (by omega), show 6 * y + k + 1 = 6 * y + (k + 1) by omega]
theorem delf_other (h : z ≠ y) (p0 : 0 ≤ p) (r1 : r ≤ 6) (k0 : 0 ≤ k) (k1 : k < 6) : delf F (6 * y + p) (6 * y + r - 1) (6 * z + k) = F (6 * z + k) := by
  unfold delf
  rw [if_neg (by omega)]
theorem setf_e {v : Int32} (h : z = y) : setf F y v z = v := if_pos h
theorem setf_n {v : Int32} (h : z ≠ y) : setf F y v z = F z := if_neg h
/-- a row comes in -/
theorem dQ_ins (p0 : 0 ≤ p) (pr : p ≤ r) (r1 : r ≤ 5) (e2 : t (q + 2) = insf (s (q + 2)) (6 * y + p) (6 * y + r) (q_I v)) (e3 : t (q + 3) = insf (s (q + 3)) (6 * y + p) (6 * y + r) (q_I w)) (e1 : t (q + 1) = setf (s (q + 1)) y (q_I (r + 1))) (e0 : t q = s q) (ef : ∀ z, z ≠ y → fr' z = fr z) : ((dQ q fr' t).K y = (dQ q fr s).K y ∧ (dQ q fr' t).R y = r + 1 ∧ ∀ k, 0 ≤ k → k ≤ r → (dQ q fr' t).A y k = inz ((dQ q fr s).A y) p (q_sg v) k ∧ (dQ q fr' t).B y k = inz ((dQ q fr s).B y) p (q_sg w) k) ∧ ∀ z, z ≠ y → Row (dQ q fr s) (dQ q fr' t) z := by
  refine ⟨⟨?_, ?_, fun k k0 k1 => ⟨?_, ?_⟩⟩, fun z hz => ⟨?_, ?_, ef z hz, fun k k0 k1 => ⟨?_, ?_⟩⟩⟩
  · show (t q y).toInt = _
    rw [e0]
    rfl
  · show (t (q + 1) y).toInt = _
    rw [e1, setf_e rfl]
    exact q_sg_id (by omega) (by omega)
  · show (t (q + 2) (6 * y + k)).toInt = _
    rw [e2, insf_same p0 k0 k1]
    rfl
  · show (t (q + 3) (6 * y + k)).toInt = _
    rw [e3, insf_same p0 k0 k1]
    rfl
  · show (t q z).toInt = _
    rw [e0]
    rfl
  · show (t (q + 1) z).toInt = _
    rw [e1, setf_n hz]
    rfl
  · show (t (q + 2) (6 * z + k)).toInt = _
    rw [e2, insf_other hz p0 r1 (by omega) k0 k1]
    rfl
  · show (t (q + 3) (6 * z + k)).toInt = _
    rw [e3, insf_other hz p0 r1 (by omega) k0 k1]
    rfl
/-- a row goes out -/
theorem dQ_del (p0 : 0 ≤ p) (pr : p < r) (r1 : r ≤ 6) (e2 : t (q + 2) = delf (s (q + 2)) (6 * y + p) (6 * y + r - 1)) (e3 : t (q + 3) = delf (s (q + 3)) (6 * y + p) (6 * y + r - 1)) (e1 : t (q + 1) = setf (s (q + 1)) y (q_I (r - 1))) (e0 : t q = s q) : ((dQ q fr t).K y = (dQ q fr s).K y ∧ (dQ q fr t).R y = r - 1 ∧ ∀ k, 0 ≤ k → k < r - 1 → (dQ q fr t).A y k = dlz ((dQ q fr s).A y) p k ∧ (dQ q fr t).B y k = dlz ((dQ q fr s).B y) p k) ∧ ∀ z, z ≠ y → Row (dQ q fr s) (dQ q fr t) z := by
  refine ⟨⟨?_, ?_, fun k k0 k1 => ⟨?_, ?_⟩⟩, fun z hz => ⟨?_, ?_, rfl, fun k k0 k1 => ⟨?_, ?_⟩⟩⟩
  · show (t q y).toInt = _
    rw [e0]
    rfl
  · show (t (q + 1) y).toInt = _
    rw [e1, setf_e rfl]
    exact q_sg_id (by omega) (by omega)
  · show (t (q + 2) (6 * y + k)).toInt = _
    rw [e2, delf_same p0 k0 k1]
    rfl
  · show (t (q + 3) (6 * y + k)).toInt = _
    rw [e3, delf_same p0 k0 k1]
    rfl
  · show (t q z).toInt = _
    rw [e0]
    rfl
  · show (t (q + 1) z).toInt = _
    rw [e1, setf_n hz]
    rfl
  · show (t (q + 2) (6 * z + k)).toInt = _
    rw [e2, delf_other hz p0 r1 k0 k1]
    rfl
  · show (t (q + 3) (6 * z + k)).toInt = _
    rw [e3, delf_other hz p0 r1 k0 k1]
    rfl
/-- one cell of the keys -/
theorem dQ_A (k0' : 0 ≤ p) (k1' : p < 6) (v0 : -2147483648 ≤ v) (v1 : v < 2147483648) : ((dQ q fr (q_u s (q + 2) (6 * y + p) v)).K y = (dQ q fr s).K y ∧ (dQ q fr (q_u s (q + 2) (6 * y + p) v)).R y = (dQ q fr s).R y ∧ (dQ q fr (q_u s (q + 2) (6 * y + p) v)).fr y = (dQ q fr s).fr y ∧ (∀ k, 0 ≤ k → k < 6 → (dQ q fr (q_u s (q + 2) (6 * y + p) v)).B y k = (dQ q fr s).B y k ∧ (k ≠ p → (dQ q fr (q_u s (q + 2) (6 * y + p) v)).A y k = (dQ q fr s).A y k)) ∧ (dQ q fr (q_u s (q + 2) (6 * y + p) v)).A y p = v) ∧ ∀ z, z ≠ y → Row (dQ q fr s) (dQ q fr (q_u s (q + 2) (6 * y + p) v)) z := by
  refine ⟨⟨q_gu_ne (by omega), q_gu_ne (by omega), rfl, fun k k0 k1 => ⟨q_gu_ne (by omega), fun hk => q_gu_ne (by omega)⟩, ?_⟩, fun z hz => ⟨q_gu_ne (by omega), q_gu_ne (by omega), rfl, fun k k0 k1 => ⟨q_gu_ne (by omega), q_gu_ne (by omega)⟩⟩⟩
  show q_g (q_u s (q + 2) (6 * y + p) v) (q + 2) (6 * y + p) = v
  rw [q_gu_eq rfl, q_sg_id v0 v1]
/-- one cell of the values -/
theorem dQ_B (k0' : 0 ≤ p) (k1' : p < 6) (v0 : -2147483648 ≤ v) (v1 : v < 2147483648) : ((dQ q fr (q_u s (q + 3) (6 * y + p) v)).K y = (dQ q fr s).K y ∧ (dQ q fr (q_u s (q + 3) (6 * y + p) v)).R y = (dQ q fr s).R y ∧ (dQ q fr (q_u s (q + 3) (6 * y + p) v)).fr y = (dQ q fr s).fr y ∧ (∀ k, 0 ≤ k → k < 6 → (dQ q fr (q_u s (q + 3) (6 * y + p) v)).A y k = (dQ q fr s).A y k ∧ (k ≠ p → (dQ q fr (q_u s (q + 3) (6 * y + p) v)).B y k = (dQ q fr s).B y k)) ∧ (dQ q fr (q_u s (q + 3) (6 * y + p) v)).B y p = v) ∧ ∀ z, z ≠ y → Row (dQ q fr s) (dQ q fr (q_u s (q + 3) (6 * y + p) v)) z := by
  refine ⟨⟨q_gu_ne (by omega), q_gu_ne (by omega), rfl, fun k k0 k1 => ⟨q_gu_ne (by omega), fun hk => q_gu_ne (by omega)⟩, ?_⟩, fun z hz => ⟨q_gu_ne (by omega), q_gu_ne (by omega), rfl, fun k k0 k1 => ⟨q_gu_ne (by omega), q_gu_ne (by omega)⟩⟩⟩
  show q_g (q_u s (q + 3) (6 * y + p) v) (q + 3) (6 * y + p) = v
  rw [q_gu_eq rfl, q_sg_id v0 v1]
end RWS
/-! a leaf is changed -/
section LFC
variable {D D' : Ar} {N x p n n' : Int} {a b a' b' : Int → Int}
theorem lf_chg (S : Sub D N (.lf p n a b) x) (h : ∀ z, z ≠ x → Row D D' z) (n0 : 0 ≤ n') (n1 : n' ≤ 5) (hx : D'.K x = D.K x ∧ D'.R x = n' ∧ D'.fr x = D.fr x ∧ ∀ k, 0 ≤ k → k < n' → D'.A x k = a' k ∧ D'.B x k = b' k) : Chd D N (.lf p n a b) x D' N (.lf p n' a' b') x := by
  obtain ⟨⟨h1, h2, h3, h4, h5, h6⟩, -, S3⟩ := S
  obtain ⟨x1, x2, x3, x4⟩ := hx
  refine ⟨⟨⟨x1.trans h1, x2, n0, n1, ?_, x4⟩, trivial, fun y hy => S3 y hy⟩, Int.le_refl _, fun y hy => Or.inl hy, fun y _ hy => h y hy⟩
  unfold Pgs at *
  rw [x3]
  exact h5
end LFC
