/-! THE CLASS: what a law's codes say -/
/-- codes that are right, what they say, how many stand on the stack at once: the least that the clauses give -/
def Gd_c (F : Int → Int) (P : List Int → Int → Nat → Prop) : Prop := (∀ n : Int, 0 ≤ n → n ≤ 999 → P [n] n 1) ∧ (∀ k : Int, 0 ≤ k → k < 7 → P [1000 + k] (F k) 1) ∧ P [2000] (q_b (F 1 = 3)) 1 ∧ P [2001] (q_b (F 1 = 2)) 1 ∧ P [2002] (q_b (q_rm (F 0) 2 = 0)) 1 ∧ (∀ (l : List Int) (v : Int) (m : Nat), P l v m → (v = 0 ∨ v = 1) → P (l ++ [3000]) (1 - v) m) ∧ (∀ (l1 l2 : List Int) (v1 v2 : Int) (m1 m2 m : Nat), P l1 v1 m1 → P l2 v2 m2 → m1 ≤ m → m2 + 1 ≤ m → P (l1 ++ l2 ++ [4000]) (v1 + v2) m) ∧ (∀ (l1 l2 : List Int) (v1 v2 : Int) (m1 m2 m : Nat), P l1 v1 m1 → P l2 v2 m2 → m1 ≤ m → m2 + 1 ≤ m → P (l1 ++ l2 ++ [4001]) (q_b (v1 < v2)) m) ∧ (∀ (l1 l2 : List Int) (v1 v2 : Int) (m1 m2 m : Nat), P l1 v1 m1 → P l2 v2 m2 → m1 ≤ m → m2 + 1 ≤ m → P (l1 ++ l2 ++ [4002]) (q_b (v2 < v1)) m) ∧ (∀ (l1 l2 : List Int) (v1 v2 : Int) (m1 m2 m : Nat), P l1 v1 m1 → P l2 v2 m2 → (v1 = 0 ∨ v1 = 1) → (v2 = 0 ∨ v2 = 1) → m1 ≤ m → m2 + 1 ≤ m → P (l1 ++ l2 ++ [4003]) (q_b (v1 = 1 ∧ v2 = 1)) m) ∧ (∀ (l1 l2 : List Int) (v1 v2 : Int) (m1 m2 m : Nat), P l1 v1 m1 → P l2 v2 m2 → (v1 = 0 ∨ v1 = 1) → (v2 = 0 ∨ v2 = 1) → m1 ≤ m → m2 + 1 ≤ m → P (l1 ++ l2 ++ [4004]) (q_b (v1 = 1 ∨ v2 = 1)) m)
def Gd (F : Int → Int) (l : List Int) (v : Int) (m : Nat) : Prop := ∀ P : List Int → Int → Nat → Prop, Gd_c F P → P l v m
section GDX
variable {F : Int → Int}
theorem Gd.num (n : Int) (h0 : 0 ≤ n) (h1 : n ≤ 999) : Gd F [n] n 1 := fun P hc => by
  obtain ⟨c1, c2, c3, c4, c5, c6, c7, c8, c9, c10, c11⟩ := id hc
  exact c1 n h0 h1
theorem Gd.fact (k : Int) (h0 : 0 ≤ k) (h1 : k < 7) : Gd F [1000 + k] (F k) 1 := fun P hc => by
  obtain ⟨c1, c2, c3, c4, c5, c6, c7, c8, c9, c10, c11⟩ := id hc
  exact c2 k h0 h1
theorem Gd.hd : Gd F [2000] (q_b (F 1 = 3)) 1 := fun P hc => by
  obtain ⟨c1, c2, c3, c4, c5, c6, c7, c8, c9, c10, c11⟩ := id hc
  exact c3
theorem Gd.sl : Gd F [2001] (q_b (F 1 = 2)) 1 := fun P hc => by
  obtain ⟨c1, c2, c3, c4, c5, c6, c7, c8, c9, c10, c11⟩ := id hc
  exact c4
theorem Gd.ev : Gd F [2002] (q_b (q_rm (F 0) 2 = 0)) 1 := fun P hc => by
  obtain ⟨c1, c2, c3, c4, c5, c6, c7, c8, c9, c10, c11⟩ := id hc
  exact c5
theorem Gd.nt {l : List Int} {v : Int} {m : Nat} (h : Gd F l v m) (hv : v = 0 ∨ v = 1) : Gd F (l ++ [3000]) (1 - v) m := fun P hc => by
  obtain ⟨c1, c2, c3, c4, c5, c6, c7, c8, c9, c10, c11⟩ := id hc
  exact c6 _ _ _ (h P hc) hv
theorem Gd.add {l1 l2 : List Int} {v1 v2 : Int} {m1 m2 m : Nat} (h1 : Gd F l1 v1 m1) (h2 : Gd F l2 v2 m2) (a1 : m1 ≤ m) (a2 : m2 + 1 ≤ m) : Gd F (l1 ++ l2 ++ [4000]) (v1 + v2) m := fun P hc => by
  obtain ⟨c1, c2, c3, c4, c5, c6, c7, c8, c9, c10, c11⟩ := id hc
  exact c7 _ _ _ _ _ _ _ (h1 P hc) (h2 P hc) a1 a2
theorem Gd.le {l1 l2 : List Int} {v1 v2 : Int} {m1 m2 m : Nat} (h1 : Gd F l1 v1 m1) (h2 : Gd F l2 v2 m2) (a1 : m1 ≤ m) (a2 : m2 + 1 ≤ m) : Gd F (l1 ++ l2 ++ [4001]) (q_b (v1 < v2)) m := fun P hc => by
  obtain ⟨c1, c2, c3, c4, c5, c6, c7, c8, c9, c10, c11⟩ := id hc
  exact c8 _ _ _ _ _ _ _ (h1 P hc) (h2 P hc) a1 a2
theorem Gd.mo {l1 l2 : List Int} {v1 v2 : Int} {m1 m2 m : Nat} (h1 : Gd F l1 v1 m1) (h2 : Gd F l2 v2 m2) (a1 : m1 ≤ m) (a2 : m2 + 1 ≤ m) : Gd F (l1 ++ l2 ++ [4002]) (q_b (v2 < v1)) m := fun P hc => by
  obtain ⟨c1, c2, c3, c4, c5, c6, c7, c8, c9, c10, c11⟩ := id hc
  exact c9 _ _ _ _ _ _ _ (h1 P hc) (h2 P hc) a1 a2
theorem Gd.an {l1 l2 : List Int} {v1 v2 : Int} {m1 m2 m : Nat} (h1 : Gd F l1 v1 m1) (h2 : Gd F l2 v2 m2) (e1 : v1 = 0 ∨ v1 = 1) (e2 : v2 = 0 ∨ v2 = 1) (a1 : m1 ≤ m) (a2 : m2 + 1 ≤ m) : Gd F (l1 ++ l2 ++ [4003]) (q_b (v1 = 1 ∧ v2 = 1)) m := fun P hc => by
  obtain ⟨c1, c2, c3, c4, c5, c6, c7, c8, c9, c10, c11⟩ := id hc
  exact c10 _ _ _ _ _ _ _ (h1 P hc) (h2 P hc) e1 e2 a1 a2
theorem Gd.orr {l1 l2 : List Int} {v1 v2 : Int} {m1 m2 m : Nat} (h1 : Gd F l1 v1 m1) (h2 : Gd F l2 v2 m2) (e1 : v1 = 0 ∨ v1 = 1) (e2 : v2 = 0 ∨ v2 = 1) (a1 : m1 ≤ m) (a2 : m2 + 1 ≤ m) : Gd F (l1 ++ l2 ++ [4004]) (q_b (v1 = 1 ∨ v2 = 1)) m := fun P hc => by
  obtain ⟨c1, c2, c3, c4, c5, c6, c7, c8, c9, c10, c11⟩ := id hc
  exact c11 _ _ _ _ _ _ _ (h1 P hc) (h2 P hc) e1 e2 a1 a2
theorem Gd_ind {motive : (l : List Int) → (v : Int) → (m : Nat) → Gd F l v m → Prop} (num : ∀ (n : Int) (h0 : 0 ≤ n) (h1 : n ≤ 999), motive [n] n 1 (Gd.num n h0 h1)) (fact : ∀ (k : Int) (h0 : 0 ≤ k) (h1 : k < 7), motive [1000 + k] (F k) 1 (Gd.fact k h0 h1)) (hd : motive [2000] (q_b (F 1 = 3)) 1 Gd.hd) (sl : motive [2001] (q_b (F 1 = 2)) 1 Gd.sl) (ev : motive [2002] (q_b (q_rm (F 0) 2 = 0)) 1 Gd.ev) (nt : ∀ {l : List Int} {v : Int} {m : Nat} (h : Gd F l v m) (hv : v = 0 ∨ v = 1), motive l v m h → motive (l ++ [3000]) (1 - v) m (Gd.nt h hv)) (add : ∀ {l1 l2 : List Int} {v1 v2 : Int} {m1 m2 m : Nat} (h1 : Gd F l1 v1 m1) (h2 : Gd F l2 v2 m2) (a1 : m1 ≤ m) (a2 : m2 + 1 ≤ m), motive l1 v1 m1 h1 → motive l2 v2 m2 h2 → motive (l1 ++ l2 ++ [4000]) (v1 + v2) m (Gd.add h1 h2 a1 a2)) (le : ∀ {l1 l2 : List Int} {v1 v2 : Int} {m1 m2 m : Nat} (h1 : Gd F l1 v1 m1) (h2 : Gd F l2 v2 m2) (a1 : m1 ≤ m) (a2 : m2 + 1 ≤ m), motive l1 v1 m1 h1 → motive l2 v2 m2 h2 → motive (l1 ++ l2 ++ [4001]) (q_b (v1 < v2)) m (Gd.le h1 h2 a1 a2)) (mo : ∀ {l1 l2 : List Int} {v1 v2 : Int} {m1 m2 m : Nat} (h1 : Gd F l1 v1 m1) (h2 : Gd F l2 v2 m2) (a1 : m1 ≤ m) (a2 : m2 + 1 ≤ m), motive l1 v1 m1 h1 → motive l2 v2 m2 h2 → motive (l1 ++ l2 ++ [4002]) (q_b (v2 < v1)) m (Gd.mo h1 h2 a1 a2)) (an : ∀ {l1 l2 : List Int} {v1 v2 : Int} {m1 m2 m : Nat} (h1 : Gd F l1 v1 m1) (h2 : Gd F l2 v2 m2) (e1 : v1 = 0 ∨ v1 = 1) (e2 : v2 = 0 ∨ v2 = 1) (a1 : m1 ≤ m) (a2 : m2 + 1 ≤ m), motive l1 v1 m1 h1 → motive l2 v2 m2 h2 → motive (l1 ++ l2 ++ [4003]) (q_b (v1 = 1 ∧ v2 = 1)) m (Gd.an h1 h2 e1 e2 a1 a2)) (orr : ∀ {l1 l2 : List Int} {v1 v2 : Int} {m1 m2 m : Nat} (h1 : Gd F l1 v1 m1) (h2 : Gd F l2 v2 m2) (e1 : v1 = 0 ∨ v1 = 1) (e2 : v2 = 0 ∨ v2 = 1) (a1 : m1 ≤ m) (a2 : m2 + 1 ≤ m), motive l1 v1 m1 h1 → motive l2 v2 m2 h2 → motive (l1 ++ l2 ++ [4004]) (q_b (v1 = 1 ∨ v2 = 1)) m (Gd.orr h1 h2 e1 e2 a1 a2)) {l : List Int} {v : Int} {m : Nat} (h : Gd F l v m) : motive l v m h := by
  have q := h (fun l v m => ∃ h : Gd F l v m, motive l v m h) ⟨fun n h0 h1 => ⟨_, num n h0 h1⟩, fun k h0 h1 => ⟨_, fact k h0 h1⟩, ⟨_, hd⟩, ⟨_, sl⟩, ⟨_, ev⟩, fun l v m p hv => ⟨_, nt p.choose hv p.choose_spec⟩, fun l1 l2 v1 v2 m1 m2 m p1 p2 a1 a2 => ⟨_, add p1.choose p2.choose a1 a2 p1.choose_spec p2.choose_spec⟩, fun l1 l2 v1 v2 m1 m2 m p1 p2 a1 a2 => ⟨_, le p1.choose p2.choose a1 a2 p1.choose_spec p2.choose_spec⟩, fun l1 l2 v1 v2 m1 m2 m p1 p2 a1 a2 => ⟨_, mo p1.choose p2.choose a1 a2 p1.choose_spec p2.choose_spec⟩, fun l1 l2 v1 v2 m1 m2 m p1 p2 e1 e2 a1 a2 => ⟨_, an p1.choose p2.choose e1 e2 a1 a2 p1.choose_spec p2.choose_spec⟩, fun l1 l2 v1 v2 m1 m2 m p1 p2 e1 e2 a1 a2 => ⟨_, orr p1.choose p2.choose e1 e2 a1 a2 p1.choose_spec p2.choose_spec⟩⟩
  exact q.choose_spec
end GDX
theorem q_b01 (p : Prop) [Decidable p] : 0 ≤ q_b p ∧ q_b p ≤ 1 := by
  unfold q_b
  split <;> omega
theorem Gd_rg {F : Int → Int} (hF : ∀ k, 0 ≤ k → k < 7 → 0 ≤ F k ∧ F k ≤ 999) {l : List Int} {v : Int} {m : Nat} (h : Gd F l v m) : 0 ≤ v ∧ v ≤ 999 * l.length ∧ 1 ≤ l.length := by
  induction h using Gd_ind with
  | num n h0 h1 => simp; omega
  | fact k h0 h1 => have := hF k h0 h1; simp; omega
  | hd => have := q_b01 (F 1 = 3); simp; omega
  | sl => have := q_b01 (F 1 = 2); simp; omega
  | ev => have := q_b01 (q_rm (F 0) 2 = 0); simp; omega
  | nt h hv ih => simp only [List.length_append, List.length_cons, List.length_nil]; omega
  | add h1 h2 _ _ ih1 ih2 => simp only [List.length_append, List.length_cons, List.length_nil]; omega
  | @le l1 l2 v1 v2 _ _ _ h1 h2 _ _ ih1 ih2 => have := q_b01 (v1 < v2); simp only [List.length_append, List.length_cons, List.length_nil]; omega
  | @mo l1 l2 v1 v2 _ _ _ h1 h2 _ _ ih1 ih2 => have := q_b01 (v2 < v1); simp only [List.length_append, List.length_cons, List.length_nil]; omega
  | @an l1 l2 v1 v2 _ _ _ h1 h2 _ _ _ _ ih1 ih2 => have := q_b01 (v1 = 1 ∧ v2 = 1); simp only [List.length_append, List.length_cons, List.length_nil]; omega
  | @orr l1 l2 v1 v2 _ _ _ h1 h2 _ _ _ _ ih1 ih2 => have := q_b01 (v1 = 1 ∨ v2 = 1); simp only [List.length_append, List.length_cons, List.length_nil]; omega
section CLE
variable {d L : Nat} {xs : Nat → Int32} {O : Nat → Int64} {c : Bool × Nat × Nat} {F : Int → Int}
theorem q_tgl {x : Int} {lo : Int32} {ts : List Nat} {df n : Nat} (hn : ts.length ≤ n) (h1 : -2147483648 ≤ x) (h2 : x < 2147483648) (h : x < lo.toInt ∨ lo.toInt + (n : Int) ≤ x) : ex_tgt (q_I x) lo ts df = df := by
  have e := q_sg_id h1 h2
  unfold ex_tgt
  rw [q_sgI, e]
  split
  · rfl
  · rw [List.getElem?_eq_none (by omega)]
    rfl
theorem q_rm2 (x : Int) : -1 ≤ q_rm x 2 ∧ q_rm x 2 ≤ 1 := by
  unfold q_rm
  rw [show q_sg 2 = 2 from rfl]
  have h1 := Int.tmod_lt_of_pos (q_sg x) (show (0 : Int) < 2 by omega)
  have h2 := Int.lt_tmod_of_pos (q_sg x) (show (0 : Int) < 2 by omega)
  omega
theorem cc_pushed {s : Nat → Int → Int32} {x v : Int} (hf : ∀ k, 0 ≤ k → k < 7 → q_g s 260 k = F k) (h : x = v ∧ 0 ≤ x ∧ x ≤ 999 ∨ (∃ k, 0 ≤ k ∧ k < 7 ∧ x = 1000 + k ∧ v = F k) ∨ x = 2000 ∧ v = q_b (F 1 = 3) ∨ x = 2001 ∧ v = q_b (F 1 = 2) ∨ x = 2002 ∧ v = q_b (q_rm (F 0) 2 = 0)) : EV (d + 1) 74 0 [.int (q_I (x)), .ref 260, .null] [] (q_h L xs s O c) = some (.inl (some (.int (q_I (v)))), q_h L xs (s) O c) := by
  have f0 := hf 0 (by omega) (by omega)
  have f1 := hf 1 (by omega) (by omega)
  rcases h with ⟨h1, h2, h3⟩ | ⟨k, h1, h2, h3, h4⟩ | ⟨h1, h2⟩ | ⟨h1, h2⟩ | ⟨h1, h2⟩
  · subst h1
    have tg : ex_tgt (q_I x) 2000 [28, 41, 54] 68 = 68 := q_tgl (n := 3) (by decide) (by omega) (by omega) (Or.inl (by show x < 2000; omega))
    simp (disch := first | omega | exact q_b_01 _) only [↓reduceIte, q_bk0, q_bk1, q_bk2, q_sg_b, q_b_0, q_b_n0, q_b_1, q_b_n1, q_b_T, q_b_F, q_sg_g, q_sg_sg, q_sg_xs, q_sg_id, q_gu_ne, q_gu_eq, q_g_fne, q_g_cpe, q_w_f, q_v_f, q_u_f, q_fn_f, q_cp_f, q_sg_pg, q_sg_hc, q_lt_t, q_lt_f, q_le_t, q_le_f, q_eq_t, q_eq_f, ne_eq, eq_self, Bool.false_eq_true, Bool.true_eq_false, not_true_eq_false, not_false_eq_true, true_and, and_true, false_and, and_false, true_or, or_true, false_or, or_false, if_true, if_false, Int.reduceAdd, Int.reduceMul, Int.reduceSub, Int.reduceNeg, tg, R_74_0, R_74_28, R_74_31, R_74_35, R_74_39, R_74_40, R_74_41, R_74_44, R_74_48, R_74_52, R_74_53, R_74_54, R_74_57, R_74_59, R_74_62, R_74_66, R_74_67, R_74_68, R_74_78, R_74_84, R_74_87, R_74_90, R_74_91, C_74_1]
  · have tg : ex_tgt (q_I (1000 + k)) 2000 [28, 41, 54] 68 = 68 := q_tgl (n := 3) (by decide) (by omega) (by omega) (Or.inl (by show 1000 + k < 2000; omega))
    have e : (1000 : Int) + k - 1000 = k := by omega
    subst h3
    subst h4
    simp (disch := first | omega | exact q_b_01 _) only [↓reduceIte, q_bk0, q_bk1, q_bk2, q_sg_b, q_b_0, q_b_n0, q_b_1, q_b_n1, q_b_T, q_b_F, q_sg_g, q_sg_sg, q_sg_xs, q_sg_id, q_gu_ne, q_gu_eq, q_g_fne, q_g_cpe, q_w_f, q_v_f, q_u_f, q_fn_f, q_cp_f, q_sg_pg, q_sg_hc, q_lt_t, q_lt_f, q_le_t, q_le_f, q_eq_t, q_eq_f, ne_eq, eq_self, Bool.false_eq_true, Bool.true_eq_false, not_true_eq_false, not_false_eq_true, true_and, and_true, false_and, and_false, true_or, or_true, false_or, or_false, if_true, if_false, Int.reduceAdd, Int.reduceMul, Int.reduceSub, Int.reduceNeg, tg, e, hf k h1 h2, R_74_0, R_74_28, R_74_31, R_74_35, R_74_39, R_74_40, R_74_41, R_74_44, R_74_48, R_74_52, R_74_53, R_74_54, R_74_57, R_74_59, R_74_62, R_74_66, R_74_67, R_74_68, R_74_78, R_74_84, R_74_87, R_74_90, R_74_91, C_74_1]
  · subst h1
    subst h2
    have tg : ex_tgt (q_I 2000) 2000 [28, 41, 54] 68 = 28 := rfl
    have rg := q_g_rg s 260 1
    rw [f1] at rg
    by_cases e : F 1 = 3
    · simp (disch := first | omega | exact q_b_01 _) only [↓reduceIte, q_bk0, q_bk1, q_bk2, q_sg_b, q_b_0, q_b_n0, q_b_1, q_b_n1, q_b_T, q_b_F, q_sg_g, q_sg_sg, q_sg_xs, q_sg_id, q_gu_ne, q_gu_eq, q_g_fne, q_g_cpe, q_w_f, q_v_f, q_u_f, q_fn_f, q_cp_f, q_sg_pg, q_sg_hc, q_lt_t, q_lt_f, q_le_t, q_le_f, q_eq_t, q_eq_f, ne_eq, eq_self, Bool.false_eq_true, Bool.true_eq_false, not_true_eq_false, not_false_eq_true, true_and, and_true, false_and, and_false, true_or, or_true, false_or, or_false, if_true, if_false, Int.reduceAdd, Int.reduceMul, Int.reduceSub, Int.reduceNeg, tg, f1, e, R_74_0, R_74_28, R_74_31, R_74_35, R_74_39, R_74_40, R_74_41, R_74_44, R_74_48, R_74_52, R_74_53, R_74_54, R_74_57, R_74_59, R_74_62, R_74_66, R_74_67, R_74_68, R_74_78, R_74_84, R_74_87, R_74_90, R_74_91, C_74_1]
    · simp (disch := first | omega | exact q_b_01 _) only [↓reduceIte, q_bk0, q_bk1, q_bk2, q_sg_b, q_b_0, q_b_n0, q_b_1, q_b_n1, q_b_T, q_b_F, q_sg_g, q_sg_sg, q_sg_xs, q_sg_id, q_gu_ne, q_gu_eq, q_g_fne, q_g_cpe, q_w_f, q_v_f, q_u_f, q_fn_f, q_cp_f, q_sg_pg, q_sg_hc, q_lt_t, q_lt_f, q_le_t, q_le_f, q_eq_t, q_eq_f, ne_eq, eq_self, Bool.false_eq_true, Bool.true_eq_false, not_true_eq_false, not_false_eq_true, true_and, and_true, false_and, and_false, true_or, or_true, false_or, or_false, if_true, if_false, Int.reduceAdd, Int.reduceMul, Int.reduceSub, Int.reduceNeg, tg, f1, e, R_74_0, R_74_28, R_74_31, R_74_35, R_74_39, R_74_40, R_74_41, R_74_44, R_74_48, R_74_52, R_74_53, R_74_54, R_74_57, R_74_59, R_74_62, R_74_66, R_74_67, R_74_68, R_74_78, R_74_84, R_74_87, R_74_90, R_74_91, C_74_1]
  · subst h1
    subst h2
    have tg : ex_tgt (q_I 2001) 2000 [28, 41, 54] 68 = 41 := rfl
    have rg := q_g_rg s 260 1
    rw [f1] at rg
    by_cases e : F 1 = 2
    · simp (disch := first | omega | exact q_b_01 _) only [↓reduceIte, q_bk0, q_bk1, q_bk2, q_sg_b, q_b_0, q_b_n0, q_b_1, q_b_n1, q_b_T, q_b_F, q_sg_g, q_sg_sg, q_sg_xs, q_sg_id, q_gu_ne, q_gu_eq, q_g_fne, q_g_cpe, q_w_f, q_v_f, q_u_f, q_fn_f, q_cp_f, q_sg_pg, q_sg_hc, q_lt_t, q_lt_f, q_le_t, q_le_f, q_eq_t, q_eq_f, ne_eq, eq_self, Bool.false_eq_true, Bool.true_eq_false, not_true_eq_false, not_false_eq_true, true_and, and_true, false_and, and_false, true_or, or_true, false_or, or_false, if_true, if_false, Int.reduceAdd, Int.reduceMul, Int.reduceSub, Int.reduceNeg, tg, f1, e, R_74_0, R_74_28, R_74_31, R_74_35, R_74_39, R_74_40, R_74_41, R_74_44, R_74_48, R_74_52, R_74_53, R_74_54, R_74_57, R_74_59, R_74_62, R_74_66, R_74_67, R_74_68, R_74_78, R_74_84, R_74_87, R_74_90, R_74_91, C_74_1]
    · simp (disch := first | omega | exact q_b_01 _) only [↓reduceIte, q_bk0, q_bk1, q_bk2, q_sg_b, q_b_0, q_b_n0, q_b_1, q_b_n1, q_b_T, q_b_F, q_sg_g, q_sg_sg, q_sg_xs, q_sg_id, q_gu_ne, q_gu_eq, q_g_fne, q_g_cpe, q_w_f, q_v_f, q_u_f, q_fn_f, q_cp_f, q_sg_pg, q_sg_hc, q_lt_t, q_lt_f, q_le_t, q_le_f, q_eq_t, q_eq_f, ne_eq, eq_self, Bool.false_eq_true, Bool.true_eq_false, not_true_eq_false, not_false_eq_true, true_and, and_true, false_and, and_false, true_or, or_true, false_or, or_false, if_true, if_false, Int.reduceAdd, Int.reduceMul, Int.reduceSub, Int.reduceNeg, tg, f1, e, R_74_0, R_74_28, R_74_31, R_74_35, R_74_39, R_74_40, R_74_41, R_74_44, R_74_48, R_74_52, R_74_53, R_74_54, R_74_57, R_74_59, R_74_62, R_74_66, R_74_67, R_74_68, R_74_78, R_74_84, R_74_87, R_74_90, R_74_91, C_74_1]
  · subst h1
    subst h2
    have tg : ex_tgt (q_I 2002) 2000 [28, 41, 54] 68 = 54 := rfl
    have r2 := q_rm2 (F 0)
    by_cases e : q_rm (F 0) 2 = 0
    · simp (disch := first | omega | exact q_b_01 _) only [↓reduceIte, q_bk0, q_bk1, q_bk2, q_sg_b, q_b_0, q_b_n0, q_b_1, q_b_n1, q_b_T, q_b_F, q_sg_g, q_sg_sg, q_sg_xs, q_sg_id, q_gu_ne, q_gu_eq, q_g_fne, q_g_cpe, q_w_f, q_v_f, q_u_f, q_fn_f, q_cp_f, q_sg_pg, q_sg_hc, q_lt_t, q_lt_f, q_le_t, q_le_f, q_eq_t, q_eq_f, ne_eq, eq_self, Bool.false_eq_true, Bool.true_eq_false, not_true_eq_false, not_false_eq_true, true_and, and_true, false_and, and_false, true_or, or_true, false_or, or_false, if_true, if_false, Int.reduceAdd, Int.reduceMul, Int.reduceSub, Int.reduceNeg, tg, f0, e, R_74_0, R_74_28, R_74_31, R_74_35, R_74_39, R_74_40, R_74_41, R_74_44, R_74_48, R_74_52, R_74_53, R_74_54, R_74_57, R_74_59, R_74_62, R_74_66, R_74_67, R_74_68, R_74_78, R_74_84, R_74_87, R_74_90, R_74_91, C_74_1]
    · simp (disch := first | omega | exact q_b_01 _) only [↓reduceIte, q_bk0, q_bk1, q_bk2, q_sg_b, q_b_0, q_b_n0, q_b_1, q_b_n1, q_b_T, q_b_F, q_sg_g, q_sg_sg, q_sg_xs, q_sg_id, q_gu_ne, q_gu_eq, q_g_fne, q_g_cpe, q_w_f, q_v_f, q_u_f, q_fn_f, q_cp_f, q_sg_pg, q_sg_hc, q_lt_t, q_lt_f, q_le_t, q_le_f, q_eq_t, q_eq_f, ne_eq, eq_self, Bool.false_eq_true, Bool.true_eq_false, not_true_eq_false, not_false_eq_true, true_and, and_true, false_and, and_false, true_or, or_true, false_or, or_false, if_true, if_false, Int.reduceAdd, Int.reduceMul, Int.reduceSub, Int.reduceNeg, tg, f0, e, R_74_0, R_74_28, R_74_31, R_74_35, R_74_39, R_74_40, R_74_41, R_74_44, R_74_48, R_74_52, R_74_53, R_74_54, R_74_57, R_74_59, R_74_62, R_74_66, R_74_67, R_74_68, R_74_78, R_74_84, R_74_87, R_74_90, R_74_91, C_74_1]
/-- a run of codes leaves its value on the stack -/
def GR (F : Int → Int) (L : Nat) (xs : Nat → Int32) (O : Nat → Int64) (c : Bool × Nat × Nat) (l : List Int) (v : Int) (m : Nat) : Prop := ∀ (d : Nat) (s : Nat → Int → Int32) (x1 x2 h p : Int) (y : Value), (∀ k, 0 ≤ k → k < 7 → q_g s 260 k = F k) → (∀ k : Nat, k < l.length → q_g s 53 (p + k) = l.getD k 0) → 0 ≤ h → h + m ≤ 32 → 0 ≤ p → p + l.length ≤ x2 → x2 ≤ 400 → ∃ t y', EV (d + 2) 73 17 [.ref 49, .int (q_I (x1)), .int (q_I (x2)), .ref 260, .int (q_I (h)), .int (q_I (p)), y] [] (q_h L xs s O c) = EV (d + 2) 73 17 [.ref 49, .int (q_I (x1)), .int (q_I (x2)), .ref 260, .int (q_I (h + 1)), .int (q_I (p + l.length)), y'] [] (q_h L xs (t) O c) ∧ q_g t 54 h = v ∧ (∀ z, z < h → t 54 z = s 54 z) ∧ ∀ k z, k ≠ 54 → t k z = s k z
theorem gr_push {x v : Int} (hv : -2147483648 ≤ v ∧ v < 2147483648) (hx : 0 ≤ x ∧ x < 3000) (h : x = v ∧ 0 ≤ x ∧ x ≤ 999 ∨ (∃ k, 0 ≤ k ∧ k < 7 ∧ x = 1000 + k ∧ v = F k) ∨ x = 2000 ∧ v = q_b (F 1 = 3) ∨ x = 2001 ∧ v = q_b (F 1 = 2) ∨ x = 2002 ∧ v = q_b (q_rm (F 0) 2 = 0)) : GR F L xs O c [x] v 1 := fun d s x1 x2 g p y hf hc g0 g1 p0 p1 p2 => by
  have c0 : q_g s 53 p = x := by
    have := hc 0 (by simp)
    rw [show p + ((0 : Nat) : Int) = p by omega] at this
    exact this
  have e1 : p + (([x] : List Int).length : Int) = p + 1 := by simp
  rw [e1] at p1 ⊢
  refine ⟨q_u s 54 g v, .int (q_I x), ?_, by rw [q_gu_eq rfl, q_sg_id hv.1 hv.2], fun z hz => q_u_n (by omega), fun k z hk => q_u_n (by omega)⟩
  rw [R_73_17]
  simp (disch := first | omega | exact q_b_01 _) only [↓reduceIte, q_bk0, q_bk1, q_bk2, q_sg_b, q_b_0, q_b_n0, q_b_1, q_b_n1, q_b_T, q_b_F, q_sg_g, q_sg_sg, q_sg_xs, q_sg_id, q_gu_ne, q_gu_eq, q_g_fne, q_g_cpe, q_w_f, q_v_f, q_u_f, q_fn_f, q_cp_f, q_sg_pg, q_sg_hc, q_lt_t, q_lt_f, q_le_t, q_le_f, q_eq_t, q_eq_f, ne_eq, eq_self, Bool.false_eq_true, Bool.true_eq_false, not_true_eq_false, not_false_eq_true, true_and, and_true, false_and, and_false, true_or, or_true, false_or, or_false, if_true, if_false, Int.reduceAdd, Int.reduceMul, Int.reduceSub, Int.reduceNeg, c0, cc_pushed hf h, R_73_0, R_73_5, R_73_7, R_73_15, R_73_23, R_73_31, R_73_38, R_73_48, R_73_55, R_73_67, R_73_68, R_73_74, R_73_82, R_73_87, R_73_105, R_73_107, R_73_110, R_73_118, R_73_124, R_73_127, R_73_146, R_73_156, R_73_157, R_73_163, R_73_169, R_73_172, R_73_176, R_73_177, C_73_12, C_73_64, C_73_153]
theorem gr_not {l : List Int} {v : Int} {m : Nat} (H : GR F L xs O c l v m) (hv : v = 0 ∨ v = 1) (hm : 1 ≤ m) : GR F L xs O c (l ++ [3000]) (1 - v) m := fun d s x1 x2 g p y hf hc g0 g1 p0 p1 p2 => by
  have el : ((l ++ [3000]).length : Int) = l.length + 1 := by simp
  rw [el] at p1 ⊢
  obtain ⟨t, y', a1, a2, a3, a4⟩ := H d s x1 x2 g p y hf (fun k hk => by
    have := hc k (by simp; omega)
    rw [this]
    simp [List.getD_eq_getElem?_getD, List.getElem?_append_left hk]) g0 g1 p0 (by omega) p2
  have c0 : q_g t 53 (p + l.length) = 3000 := by
    have := hc l.length (by simp)
    show (t 53 _).toInt = _
    rw [a4 53 _ (by decide)]
    refine Eq.trans this ?_
    simp [List.getD_eq_getElem?_getD]
  have e1 : g + 1 - 1 = g := by omega
  refine ⟨q_u t 54 g (1 - v), .int (q_I 3000), ?_, by rw [q_gu_eq rfl, q_sg_id (by omega) (by omega)], fun z hz => by rw [q_u_n (by omega), a3 z hz], fun k z hk => by rw [q_u_n (by omega), a4 k z hk]⟩
  rw [a1, R_73_17, show p + ((l.length : Int) + 1) = p + l.length + 1 by omega]
  simp (disch := first | omega | exact q_b_01 _) only [↓reduceIte, q_bk0, q_bk1, q_bk2, q_sg_b, q_b_0, q_b_n0, q_b_1, q_b_n1, q_b_T, q_b_F, q_sg_g, q_sg_sg, q_sg_xs, q_sg_id, q_gu_ne, q_gu_eq, q_g_fne, q_g_cpe, q_w_f, q_v_f, q_u_f, q_fn_f, q_cp_f, q_sg_pg, q_sg_hc, q_lt_t, q_lt_f, q_le_t, q_le_f, q_eq_t, q_eq_f, ne_eq, eq_self, Bool.false_eq_true, Bool.true_eq_false, not_true_eq_false, not_false_eq_true, true_and, and_true, false_and, and_false, true_or, or_true, false_or, or_false, if_true, if_false, Int.reduceAdd, Int.reduceMul, Int.reduceSub, Int.reduceNeg, c0, e1, a2, R_73_0, R_73_5, R_73_7, R_73_15, R_73_23, R_73_31, R_73_38, R_73_48, R_73_55, R_73_67, R_73_68, R_73_74, R_73_82, R_73_87, R_73_105, R_73_107, R_73_110, R_73_118, R_73_124, R_73_127, R_73_146, R_73_156, R_73_157, R_73_163, R_73_169, R_73_172, R_73_176, R_73_177, C_73_12, C_73_64, C_73_153]
theorem gr_bin {l1 l2 : List Int} {v1 v2 w op : Int} {m1 m2 m : Nat} (H1 : GR F L xs O c l1 v1 m1) (H2 : GR F L xs O c l2 v2 m2) (h1 : m1 ≤ m) (h2 : m2 + 1 ≤ m) (m2p : 1 ≤ m2) (hop : 4000 ≤ op ∧ op ≤ 4004) (hw : -2147483648 ≤ w ∧ w < 2147483648) (hj : ∀ d s, EV (d + 1) 75 0 [.int (q_I (op)), .int (q_I (v1)), .int (q_I (v2))] [] (q_h L xs s O c) = some (.inl (some (.int (q_I (w)))), q_h L xs (s) O c)) : GR F L xs O c (l1 ++ l2 ++ [op]) w m := fun d s x1 x2 g p y hf hc g0 g1 p0 p1 p2 => by
  have el : ((l1 ++ l2 ++ [op]).length : Int) = l1.length + l2.length + 1 := by simp; omega
  rw [el] at p1 ⊢
  obtain ⟨t, y1, a1, a2, a3, a4⟩ := H1 d s x1 x2 g p y hf (fun k hk => by
    have := hc k (by simp; omega)
    rw [this]
    simp [List.getD_eq_getElem?_getD, List.getElem?_append_left hk]) g0 (by omega) p0 (by omega) p2
  obtain ⟨u, y2, b1, b2, b3, b4⟩ := H2 d t x1 x2 (g + 1) (p + l1.length) y1 (fun k k0 k1 => by
    show (t 260 k).toInt = _
    rw [a4 260 k (by decide)]
    exact hf k k0 k1) (fun k hk => by
    have := hc (l1.length + k) (by simp; omega)
    show (t 53 _).toInt = _
    rw [a4 53 _ (by decide)]
    rw [show p + (l1.length : Int) + (k : Int) = p + ((l1.length + k : Nat) : Int) by omega]
    refine Eq.trans this ?_
    rw [List.getD_eq_getElem?_getD, List.getD_eq_getElem?_getD, List.append_assoc, List.getElem?_append_right (by omega), Nat.add_sub_cancel_left, List.getElem?_append_left hk]) (by omega) (by omega) (by omega) (by omega) p2
  have c0 : q_g u 53 (p + l1.length + l2.length) = op := by
    have := hc (l1.length + l2.length) (by simp)
    show (u 53 _).toInt = _
    rw [b4 53 _ (by decide), a4 53 _ (by decide)]
    rw [show p + (l1.length : Int) + (l2.length : Int) = p + ((l1.length + l2.length : Nat) : Int) by omega]
    refine Eq.trans this ?_
    simp [List.getD_eq_getElem?_getD, ← List.append_assoc]
  have gv1 : q_g u 54 g = v1 := by
    show (u 54 g).toInt = _
    rw [b3 g (by omega)]
    exact a2
  have e0 : g + 1 + 1 + -1 = g + 1 := by omega
  have e1 : g + 1 - 1 = g := by omega
  refine ⟨q_u u 54 g w, .int (q_I op), ?_, by rw [q_gu_eq rfl, q_sg_id hw.1 hw.2], fun z hz => by rw [q_u_n (by omega), b3 z (by omega), a3 z hz], fun k z hk => by rw [q_u_n (by omega), b4 k z hk, a4 k z hk]⟩
  rw [a1, b1, R_73_17, show p + ((l1.length : Int) + l2.length + 1) = p + l1.length + l2.length + 1 by omega]
  simp (disch := first | omega | exact q_b_01 _) only [↓reduceIte, q_bk0, q_bk1, q_bk2, q_sg_b, q_b_0, q_b_n0, q_b_1, q_b_n1, q_b_T, q_b_F, q_sg_g, q_sg_sg, q_sg_xs, q_sg_id, q_gu_ne, q_gu_eq, q_g_fne, q_g_cpe, q_w_f, q_v_f, q_u_f, q_fn_f, q_cp_f, q_sg_pg, q_sg_hc, q_lt_t, q_lt_f, q_le_t, q_le_f, q_eq_t, q_eq_f, ne_eq, eq_self, Bool.false_eq_true, Bool.true_eq_false, not_true_eq_false, not_false_eq_true, true_and, and_true, false_and, and_false, true_or, or_true, false_or, or_false, if_true, if_false, Int.reduceAdd, Int.reduceMul, Int.reduceSub, Int.reduceNeg, c0, e0, e1, gv1, b2, hj, R_73_0, R_73_5, R_73_7, R_73_15, R_73_23, R_73_31, R_73_38, R_73_48, R_73_55, R_73_67, R_73_68, R_73_74, R_73_82, R_73_87, R_73_105, R_73_107, R_73_110, R_73_118, R_73_124, R_73_127, R_73_146, R_73_156, R_73_157, R_73_163, R_73_169, R_73_172, R_73_176, R_73_177, C_73_12, C_73_64, C_73_153]
end CLE
