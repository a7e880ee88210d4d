/-! THE CLASS: a walk over a tree -/
def isW (w : Nat) : Prop := w = 270 ∨ w = 273 ∨ w = 276 ∨ w = 279 ∨ w = 282
/-- the walk at w with its values, what is beneath, how deep and large -/
def wm (s : Nat → Int → Int32) (w : Nat) (V Bn : Int → Int32) (dp sz : Int) : Nat → Int → Int32 := q_u (q_u (q_v (q_v s (w + 1) 0 100 V) (w + 2) 0 48 Bn) w 3 dp) w 4 sz
section WK
variable {d L : Nat} {xs : Nat → Int32} {s : Nat → Int → Int32} {O : Nat → Int64} {c : Bool × Nat × Nat} {w : Nat}
theorem wk_A1 (hw : isW w) : ly_A (w + 1) 100 .int := by
  rcases hw with e | e | e | e | e <;> subst e <;> exact ⟨rfl, by decide, by decide, by decide, by decide⟩
theorem wk_A2 (hw : isW w) : ly_A (w + 2) 48 .int := by
  rcases hw with e | e | e | e | e <;> subst e <;> exact ⟨rfl, by decide, by decide, by decide, by decide⟩
theorem wk_B (hw : isW w) : ly_B w 9 [some (w + 1), some (w + 2), none, none, none] := by
  rcases hw with e | e | e | e | e <;> subst e <;> exact ⟨rfl, by decide, by decide, by decide, by decide⟩
theorem wk_g0 (hw : isW w) : ex_get (q_h L xs s O c) w 9 0 = some (.ref (w + 1)) := q_gr (wk_B hw) rfl
theorem wk_g1 (hw : isW w) : ex_get (q_h L xs s O c) w 9 1 = some (.ref (w + 2)) := q_gr (wk_B hw) rfl
theorem wk_g2 (hw : isW w) : ex_get (q_h L xs s O c) w 9 2 = some (.int (q_I (q_g s w 2))) := q_gi (wk_B hw) rfl
theorem wk_g3 (hw : isW w) : ex_get (q_h L xs s O c) w 9 3 = some (.int (q_I (q_g s w 3))) := q_gi (wk_B hw) rfl
theorem wk_g4 (hw : isW w) : ex_get (q_h L xs s O c) w 9 4 = some (.int (q_I (q_g s w 4))) := q_gi (wk_B hw) rfl
theorem wk_p2 (hw : isW w) {v : Int} : ex_put (q_h L xs s O c) w 9 2 0 (.int (q_I v)) = some (q_h L xs (q_u s w 2 v) O c) := q_pi (wk_B hw) rfl
theorem wk_p3 (hw : isW w) {v : Int} : ex_put (q_h L xs s O c) w 9 3 0 (.int (q_I v)) = some (q_h L xs (q_u s w 3 v) O c) := q_pi (wk_B hw) rfl
theorem wk_p4 (hw : isW w) {v : Int} : ex_put (q_h L xs s O c) w 9 4 0 (.int (q_I v)) = some (q_h L xs (q_u s w 4 v) O c) := q_pi (wk_B hw) rfl
theorem wk_rc (hw : isW w) (r : List Value) : ex_rc (q_h L xs s O c) 11 (.ref w :: r) = true := q_rcv (wk_B hw) r
theorem wk_l1 (hw : isW w) {z : Int} (h0 : 0 ≤ z) (h1 : z < 100) : ex_ild (q_h L xs s O c) (w + 1) (q_I z) = some (q_I (q_g s (w + 1) z)) := q_ld (wk_A1 hw) h0 h1 (by decide)
theorem wk_l2 (hw : isW w) {z : Int} (h0 : 0 ≤ z) (h1 : z < 48) : ex_ild (q_h L xs s O c) (w + 2) (q_I z) = some (q_I (q_g s (w + 2) z)) := q_ld (wk_A2 hw) h0 h1 (by decide)
theorem wk_s1 (hw : isW w) {z v : Int} (h0 : 0 ≤ z) (h1 : z < 100) : ex_ist (q_h L xs s O c) (w + 1) (q_I z) (q_I v) = some (q_h L xs (q_u s (w + 1) z v) O c) := q_st (wk_A1 hw) h0 h1 (by decide)
theorem wk_s2 (hw : isW w) {z v : Int} (h0 : 0 ≤ z) (h1 : z < 48) : ex_ist (q_h L xs s O c) (w + 2) (q_I z) (q_I v) = some (q_h L xs (q_u s (w + 2) z v) O c) := q_st (wk_A2 hw) h0 h1 (by decide)
theorem wk_rg (hw : isW w) : 270 ≤ w ∧ w ≤ 282 := by
  unfold isW at hw
  omega
variable {V Bn : Int → Int32} {dp sz : Int}
theorem wm_f {k : Nat} (h : k < w ∨ w + 2 < k) : q_g (wm s w V Bn dp sz) k = q_g s k := by
  unfold wm
  rw [q_u_f (by omega), q_u_f (by omega), q_v_f (by omega), q_v_f (by omega)]
theorem wm_g1 {z : Int} (h0 : 0 ≤ z) (h1 : z < 100) : q_g (wm s w V Bn dp sz) (w + 1) z = (V z).toInt := by
  unfold wm
  rw [q_gu_ne (by omega), q_gu_ne (by omega), q_v_ne (by omega), q_v_g0 _ _ _ h0 h1]
theorem wm_g2 {z : Int} (h0 : 0 ≤ z) (h1 : z < 48) : q_g (wm s w V Bn dp sz) (w + 2) z = (Bn z).toInt := by
  unfold wm
  rw [q_gu_ne (by omega), q_gu_ne (by omega), q_v_g0 _ _ _ h0 h1]
theorem wm_d : q_g (wm s w V Bn dp sz) w 3 = q_sg dp := by
  unfold wm
  rw [q_gu_ne (by omega), q_gu_eq rfl]
theorem wm_s : q_g (wm s w V Bn dp sz) w 4 = q_sg sz := by
  unfold wm
  rw [q_gu_eq rfl]
theorem q_uu_ne {k k' : Nat} {z v z' v' : Int} (h : ¬ (k = k' ∧ z = z')) : q_u (q_u s k z v) k' z' v' = q_u (q_u s k' z' v') k z v := by
  funext a b
  unfold q_u
  by_cases e1 : a = k' ∧ b = z'
  · rw [if_pos e1, if_neg (fun e2 => h ⟨e2.1.symm.trans e1.1, e2.2.symm.trans e1.2⟩), if_pos e1]
  · rw [if_neg e1]
    by_cases e2 : a = k ∧ b = z
    · rw [if_pos e2]
      simp [e2]
    · simp [e1, e2]
theorem q_uu_eq {k : Nat} {z v v' : Int} : q_u (q_u s k z v) k z v' = q_u s k z v' := by
  funext a b
  unfold q_u
  by_cases e1 : a = k ∧ b = z
  · rw [if_pos e1, if_pos e1]
  · simp [e1]
theorem q_vu_ne {k k' : Nat} {lo n z' v' : Int} {W : Int → Int32} (h : k ≠ k') : q_u (q_v s k lo n W) k' z' v' = q_v (q_u s k' z' v') k lo n W := by
  funext a b
  unfold q_u q_v
  by_cases e1 : a = k' ∧ b = z'
  · rw [if_pos e1, if_neg (fun e2 => h (e2.1.symm.trans e1.1))]
    exact (if_pos e1).symm
  · rw [if_neg e1]
    dsimp only
    split
    · rfl
    · first | rfl | exact (if_neg e1).symm
theorem wm_1 {z v : Int} (h0 : 0 ≤ z) (h1 : z < 100) : q_u (wm s w V Bn dp sz) (w + 1) z v = wm s w (fun y => if y = z then q_I v else V y) Bn dp sz := by
  unfold wm
  rw [q_uu_ne (k := w) (z := 4) (k' := w + 1) (by omega), q_uu_ne (k := w) (z := 3) (k' := w + 1) (by omega), q_vu_ne (k := w + 2) (k' := w + 1) (by omega), q_v_u0 _ _ _ h0 h1]
theorem wm_2 {z v : Int} (h0 : 0 ≤ z) (h1 : z < 48) : q_u (wm s w V Bn dp sz) (w + 2) z v = wm s w V (fun y => if y = z then q_I v else Bn y) dp sz := by
  unfold wm
  rw [q_uu_ne (k := w) (z := 4) (k' := w + 2) (by omega), q_uu_ne (k := w) (z := 3) (k' := w + 2) (by omega), q_v_u0 _ _ _ h0 h1]
theorem wm_3 {v : Int} : q_u (wm s w V Bn dp sz) w 3 v = wm s w V Bn v sz := by
  unfold wm
  rw [q_uu_ne (k := w) (z := 4) (k' := w) (z' := 3) (by omega), q_uu_eq]
theorem wm_4 {v : Int} : q_u (wm s w V Bn dp sz) w 4 v = wm s w V Bn dp v := by
  unfold wm
  rw [q_uu_eq]
theorem wm_4' {v : Int} (h : q_I v = q_I sz) : wm s w V Bn dp v = wm s w V Bn dp sz := by
  unfold wm q_u
  rw [h]
/-- how many pages are met -/
def cn48 (Bn : Int → Int32) : Int := q_S (fun q => q_b (Bn q ≠ q_I (-1))) 0 48
theorem cn48_c {Bn Bn' : Int → Int32} (h : ∀ q, 0 ≤ q → q < 48 → (Bn q ≠ q_I (-1) ↔ Bn' q ≠ q_I (-1))) : cn48 Bn = cn48 Bn' := q_S_c (fun i h1 h2 => q_b_c (h i h1 h2))
theorem q_S_up (f g : Int → Int) {lo hi p : Int} (h0 : lo ≤ p) (h1 : p < hi) (h : ∀ i, lo ≤ i → i < hi → i ≠ p → f i = g i) : q_S f lo hi = q_S g lo hi + (f p - g p) := by
  have key : ∀ n : Nat, (n : Int) ≤ hi - lo → q_sn f lo n = q_sn g lo n + if p < lo + n then f p - g p else 0 := by
    intro n
    induction n with
    | zero =>
      intro _
      rw [if_neg (by omega)]
      rfl
    | succ n ih =>
      intro hn
      show q_sn f lo n + f (lo + n) = q_sn g lo n + g (lo + n) + _
      rw [ih (by omega)]
      by_cases e : lo + n = p
      · rw [e, if_neg (by omega), if_pos (by omega)]
        omega
      · rw [h (lo + n) (by omega) (by omega) e]
        by_cases e2 : p < lo + n
        · rw [if_pos e2, if_pos (by omega)]
          omega
        · rw [if_neg e2, if_neg (by omega)]
          omega
  unfold q_S
  rw [key _ (by omega), if_pos (by omega)]
theorem cn48_1 {Bn : Int → Int32} {p v : Int} (h0 : 0 ≤ p) (h1 : p < 48) (hp : Bn p = q_I (-1)) (hv : q_I v ≠ q_I (-1)) : cn48 (fun y => if y = p then q_I v else Bn y) = cn48 Bn + 1 := by
  unfold cn48
  rw [q_S_up (fun q => q_b ((if q = p then q_I v else Bn q) ≠ q_I (-1))) (fun q => q_b (Bn q ≠ q_I (-1))) h0 h1 (fun i _ _ hi => by
    refine q_b_c ?_
    rw [if_neg hi])]
  rw [if_pos rfl, q_bt hv, q_bf (not_not_intro hp)]
  omega
theorem cn48_rg (Bn : Int → Int32) : 0 ≤ cn48 Bn ∧ cn48 Bn ≤ 48 := by
  have := q_S_bd (f := fun q => q_b (Bn q ≠ q_I (-1))) (lo := 0) (hi := 48) (a := 0) (b := 1) (fun i _ _ => by
    rcases q_b_01 (Bn i ≠ q_I (-1)) with e | e <;> rw [e] <;> omega) (by omega)
  unfold cn48
  omega
end WK
