/-! THE HEAP behind the constructors: which cells there are (by a program that ran them), and what they hold by two tables of numbers: A of the arrays, B of the objects' ints -/
abbrev ly_E : Type := (FieldType × Nat) ⊕ (Nat × List (Option Nat))
def ly_0 : List ly_E := [.inl (.int, 0), .inr (11, [some 2, some 7, some 21, some 35, none, some 49, some 55, some 61, some 67, some 68, some 71, some 241, some 261, some 264, some 265, some 266, some 267, some 268, none, some 269]), .inr (8, [some 3, none, some 4, some 5, some 6, none, none]), .inl (.int, 400), .inl (.int, 401), .inl (.int, 401), .inl (.int, 401), .inr (7, [some 8, some 16, some 17, some 18, some 19, none, none, none, none, none, none, some 20, none, none]), .inr (0, [some 9, some 10, some 11, some 12, some 13, some 14, some 15]), .inl (.int, 48), .inl (.int, 48), .inl (.int, 48), .inl (.int, 48), .inl (.int, 288), .inl (.int, 288), .inl (.int, 8)]
def ly_1 : List ly_E := [.inl (.int, 4), .inl (.int, 4), .inl (.int, 12), .inl (.int, 12), .inl (.int, 240), .inr (7, [some 22, some 30, some 31, some 32, some 33, none, none, none, none, none, none, some 34, none, none]), .inr (0, [some 23, some 24, some 25, some 26, some 27, some 28, some 29]), .inl (.int, 48), .inl (.int, 48), .inl (.int, 48), .inl (.int, 48), .inl (.int, 288), .inl (.int, 288), .inl (.int, 8), .inl (.int, 4), .inl (.int, 4)]
def ly_2 : List ly_E := [.inl (.int, 12), .inl (.int, 12), .inl (.int, 240), .inr (7, [some 36, some 44, some 45, some 46, some 47, none, none, none, none, none, none, some 48, none, none]), .inr (0, [some 37, some 38, some 39, some 40, some 41, some 42, some 43]), .inl (.int, 48), .inl (.int, 48), .inl (.int, 48), .inl (.int, 48), .inl (.int, 288), .inl (.int, 288), .inl (.int, 8), .inl (.int, 4), .inl (.int, 4), .inl (.int, 12), .inl (.int, 12)]
def ly_3 : List ly_E := [.inl (.int, 240), .inr (4, [none, some 50, some 51, some 52, some 53, none, some 54]), .inl (.int, 12), .inl (.int, 12), .inl (.int, 12), .inl (.int, 400), .inl (.int, 32), .inr (4, [none, some 56, some 57, some 58, some 59, none, some 60]), .inl (.int, 12), .inl (.int, 12), .inl (.int, 12), .inl (.int, 400), .inl (.int, 32), .inr (4, [none, some 62, some 63, some 64, some 65, none, some 66]), .inl (.int, 12), .inl (.int, 12)]
def ly_4 : List ly_E := [.inl (.int, 12), .inl (.int, 400), .inl (.int, 32), .inr (5, [some 2, some 55]), .inr (10, [some 2, some 69, some 70, none, none, none]), .inl (.int, 12), .inl (.int, 12), .inr (3, [some 72, none, none]), .inl (.int, 0), .inr (7, [some 74, some 82, some 83, some 84, some 85, none, none, none, none, none, none, some 86, none, none]), .inr (0, [some 75, some 76, some 77, some 78, some 79, some 80, some 81]), .inl (.int, 48), .inl (.int, 48), .inl (.int, 48), .inl (.int, 48), .inl (.int, 288)]
def ly_5 : List ly_E := [.inl (.int, 288), .inl (.int, 8), .inl (.int, 4), .inl (.int, 4), .inl (.int, 12), .inl (.int, 12), .inl (.int, 240), .inr (7, [some 88, some 96, some 97, some 98, some 99, none, none, none, none, none, none, some 100, none, none]), .inr (0, [some 89, some 90, some 91, some 92, some 93, some 94, some 95]), .inl (.int, 48), .inl (.int, 48), .inl (.int, 48), .inl (.int, 48), .inl (.int, 288), .inl (.int, 288), .inl (.int, 8)]
def ly_6 : List ly_E := [.inl (.int, 4), .inl (.int, 4), .inl (.int, 12), .inl (.int, 12), .inl (.int, 240), .inr (7, [some 102, some 110, some 111, some 112, some 113, none, none, none, none, none, none, some 114, none, none]), .inr (0, [some 103, some 104, some 105, some 106, some 107, some 108, some 109]), .inl (.int, 48), .inl (.int, 48), .inl (.int, 48), .inl (.int, 48), .inl (.int, 288), .inl (.int, 288), .inl (.int, 8), .inl (.int, 4), .inl (.int, 4)]
def ly_7 : List ly_E := [.inl (.int, 12), .inl (.int, 12), .inl (.int, 240), .inr (7, [some 116, some 124, some 125, some 126, some 127, none, none, none, none, none, none, some 128, none, none]), .inr (0, [some 117, some 118, some 119, some 120, some 121, some 122, some 123]), .inl (.int, 48), .inl (.int, 48), .inl (.int, 48), .inl (.int, 48), .inl (.int, 288), .inl (.int, 288), .inl (.int, 8), .inl (.int, 4), .inl (.int, 4), .inl (.int, 12), .inl (.int, 12)]
def ly_8 : List ly_E := [.inl (.int, 240), .inr (7, [some 130, some 138, some 139, some 140, some 141, none, none, none, none, none, none, some 142, none, none]), .inr (0, [some 131, some 132, some 133, some 134, some 135, some 136, some 137]), .inl (.int, 48), .inl (.int, 48), .inl (.int, 48), .inl (.int, 48), .inl (.int, 288), .inl (.int, 288), .inl (.int, 8), .inl (.int, 4), .inl (.int, 4), .inl (.int, 12), .inl (.int, 12), .inl (.int, 240), .inr (7, [some 144, some 152, some 153, some 154, some 155, none, none, none, none, none, none, some 156, none, none])]
def ly_9 : List ly_E := [.inr (0, [some 145, some 146, some 147, some 148, some 149, some 150, some 151]), .inl (.int, 48), .inl (.int, 48), .inl (.int, 48), .inl (.int, 48), .inl (.int, 288), .inl (.int, 288), .inl (.int, 8), .inl (.int, 4), .inl (.int, 4), .inl (.int, 12), .inl (.int, 12), .inl (.int, 240), .inr (7, [some 158, some 166, some 167, some 168, some 169, none, none, none, none, none, none, some 170, none, none]), .inr (0, [some 159, some 160, some 161, some 162, some 163, some 164, some 165]), .inl (.int, 48)]
def ly_10 : List ly_E := [.inl (.int, 48), .inl (.int, 48), .inl (.int, 48), .inl (.int, 288), .inl (.int, 288), .inl (.int, 8), .inl (.int, 4), .inl (.int, 4), .inl (.int, 12), .inl (.int, 12), .inl (.int, 240), .inr (7, [some 172, some 180, some 181, some 182, some 183, none, none, none, none, none, none, some 184, none, none]), .inr (0, [some 173, some 174, some 175, some 176, some 177, some 178, some 179]), .inl (.int, 48), .inl (.int, 48), .inl (.int, 48)]
def ly_11 : List ly_E := [.inl (.int, 48), .inl (.int, 288), .inl (.int, 288), .inl (.int, 8), .inl (.int, 4), .inl (.int, 4), .inl (.int, 12), .inl (.int, 12), .inl (.int, 240), .inr (7, [some 186, some 194, some 195, some 196, some 197, none, none, none, none, none, none, some 198, none, none]), .inr (0, [some 187, some 188, some 189, some 190, some 191, some 192, some 193]), .inl (.int, 48), .inl (.int, 48), .inl (.int, 48), .inl (.int, 48), .inl (.int, 288)]
def ly_12 : List ly_E := [.inl (.int, 288), .inl (.int, 8), .inl (.int, 4), .inl (.int, 4), .inl (.int, 12), .inl (.int, 12), .inl (.int, 240), .inr (7, [some 200, some 208, some 209, some 210, some 211, none, none, none, none, none, none, some 212, none, none]), .inr (0, [some 201, some 202, some 203, some 204, some 205, some 206, some 207]), .inl (.int, 48), .inl (.int, 48), .inl (.int, 48), .inl (.int, 48), .inl (.int, 288), .inl (.int, 288), .inl (.int, 8)]
def ly_13 : List ly_E := [.inl (.int, 4), .inl (.int, 4), .inl (.int, 12), .inl (.int, 12), .inl (.int, 240), .inr (7, [some 214, some 222, some 223, some 224, some 225, none, none, none, none, none, none, some 226, none, none]), .inr (0, [some 215, some 216, some 217, some 218, some 219, some 220, some 221]), .inl (.int, 48), .inl (.int, 48), .inl (.int, 48), .inl (.int, 48), .inl (.int, 288), .inl (.int, 288), .inl (.int, 8), .inl (.int, 4), .inl (.int, 4)]
def ly_14 : List ly_E := [.inl (.int, 12), .inl (.int, 12), .inl (.int, 240), .inr (7, [some 228, some 236, some 237, some 238, some 239, none, none, none, none, none, none, some 240, none, none]), .inr (0, [some 229, some 230, some 231, some 232, some 233, some 234, some 235]), .inl (.int, 48), .inl (.int, 48), .inl (.int, 48), .inl (.int, 48), .inl (.int, 288), .inl (.int, 288), .inl (.int, 8), .inl (.int, 4), .inl (.int, 4), .inl (.int, 12), .inl (.int, 12)]
def ly_15 : List ly_E := [.inl (.int, 240), .inr (6, [some 242, some 251, some 254, some 255, some 256, none, some 257, some 258, none, some 259, none, none, none, none, some 260]), .inr (1, [some 243, some 244, some 245, some 246, some 247, some 248, some 249, some 250, none, none, none, none, none]), .inl (.int, 176), .inl (.int, 176), .inl (.int, 1056), .inl (.int, 1056), .inl (.int, 176), .inl (.int, 48), .inl (.int, 40), .inl (.int, 40), .inr (2, [some 252, some 253, none, none]), .inl (.int, 48), .inl (.int, 48), .inl (.int, 48), .inl (.int, 176)]
def ly_16 : List ly_E := [.inl (.int, 48), .inl (.int, 48), .inl (.int, 48), .inl (.int, 49), .inl (.int, 7), .inr (2, [some 262, some 263, none, none]), .inl (.int, 48), .inl (.int, 48), .inl (.int, 0), .inl (.int, 1), .inl (.int, 1), .inl (.int, 4), .inl (.int, 4), .inl (.int, 4), .inr (9, [some 271, some 272, none, none, none]), .inl (.int, 100)]
def ly_17 : List ly_E := [.inl (.int, 48), .inr (9, [some 274, some 275, none, none, none]), .inl (.int, 100), .inl (.int, 48), .inr (9, [some 277, some 278, none, none, none]), .inl (.int, 100), .inl (.int, 48), .inr (9, [some 280, some 281, none, none, none]), .inl (.int, 100), .inl (.int, 48), .inr (9, [some 283, some 284, none, none, none]), .inl (.int, 100), .inl (.int, 48), .inr (12, [none, some 286, some 287, none, some 288, some 289, none, some 290, none, none, none, none, none, none, some 291, none, none, some 292, some 293, none, some 294, some 295, some 296, some 297, some 298, none, none, some 299, some 300, none, some 301, some 302, some 303, some 304, none, none, none, some 305, some 306, none, none, some 307, some 308, some 309, some 310, some 311]), .inl (.int, 1449), .inl (.int, 1449)]
def ly_18 : List ly_E := [.inl (.int, 1049), .inl (.int, 12588), .inl (.int, 400), .inl (.int, 7), .inl (.int, 12), .inl (.int, 12), .inl (.int, 240), .inl (.int, 240), .inl (.int, 1440), .inl (.int, 1440), .inl (.int, 240), .inl (.int, 16), .inl (.int, 16), .inl (.boolean, 48), .inl (.boolean, 48), .inl (.int, 48)]
def ly_19 : List ly_E := [.inl (.int, 48), .inl (.int, 768), .inl (.int, 49), .inl (.int, 48), .inl (.int, 500), .inl (.int, 5), .inl (.int, 16), .inl (.int, 4), .inl (.int, 0)]
def ly : List (List ly_E) := [ly_0, ly_1, ly_2, ly_3, ly_4, ly_5, ly_6, ly_7, ly_8, ly_9, ly_10, ly_11, ly_12, ly_13, ly_14, ly_15, ly_16, ly_17, ly_18, ly_19]
def ly_at (k : Nat) : Option ly_E := match ly[k / 16]? with
  | some l => l[k % 16]?
  | none => none
def hp_f (b : Nat → Int32) : Nat → List (Option Nat) → List Value
  | _, [] => []
  | j, none :: r => .int (b j) :: hp_f b (j + 1) r
  | j, some a :: r => .ref a :: hp_f b (j + 1) r
def hp_c (A B : Nat → Nat → Int32) (k : Nat) : ly_E → ex_C
  | .inl (ty, n) => .inl (ty, n, .inl (A k))
  | .inr (ci, fs) => .inr (ci, hp_f (B k) 0 fs)
def ly_r1 : List Nat := [73, 87, 101, 115, 129, 143, 157, 171, 185, 199, 213, 227]
def ly_r2 : List Nat := [270, 273, 276, 279, 282]
def hp_g (L : Nat) (xs : Nat → Int32) (A B : Nat → Nat → Int32) (O : Nat → Int64) (k : Nat) : Option ex_C :=
  if k = 0 then some (.inl (.int, L, .inl xs)) else if k = 312 then some (.inl (.long, 1, .inr (.inl O))) else if k = 72 then some (.inl (.object RX7, 12, .inr (.inr (.inr (.inr (fun j => ly_r1[j]?)))))) else if k = 264 then some (.inl (.object RX9, 5, .inr (.inr (.inr (.inr (fun j => ly_r2[j]?)))))) else match ly_at k with
  | some e => some (hp_c A B k e)
  | none => none
/-- script's length and ints, arrays, objects' ints, the law's long, the counts -/
def hp (L : Nat) (xs : Nat → Int32) (A B : Nat → Nat → Int32) (O : Nat → Int64) (c : Bool × Nat × Nat) : ex_H := (c, hp_g L xs A B O)
/-- a cell with an array that may be written -/
def ly_A (k n : Nat) (ty : FieldType) : Prop := ly_at k = some (.inl (ty, n)) ∧ k ≠ 0 ∧ k ≠ 312 ∧ k ≠ 72 ∧ k ≠ 264
def ly_B (k ci : Nat) (fs : List (Option Nat)) : Prop := ly_at k = some (.inr (ci, fs)) ∧ k ≠ 0 ∧ k ≠ 312 ∧ k ≠ 72 ∧ k ≠ 264
/-- one row of a table anew -/
def up1 {α : Type} (A : Nat → α) (k : Nat) (g : α) : Nat → α := fun j => if j = k then g else A j
section HP
variable {L : Nat} {xs : Nat → Int32} {A B : Nat → Nat → Int32} {O : Nat → Int64} {c : Bool × Nat × Nat}
theorem hp_setA {k n : Nat} {ty : FieldType} {g : Nat → Int32} (hk : ly_A k n ty) : ex_set (hp L xs A B O c) k (.inl (ty, n, .inl g)) = hp L xs (up1 A k g) B O c := by
  obtain ⟨h1, h2, h3, h4, h5⟩ := hk
  unfold ex_set hp
  refine Prod.ext rfl (funext fun j => ?_)
  dsimp only
  by_cases e : j = k
  · subst e
    rw [if_pos rfl]
    unfold hp_g
    rw [if_neg h2, if_neg h3, if_neg h4, if_neg h5, h1]
    simp [hp_c, up1]
  · rw [if_neg e]
    unfold hp_g
    split
    · rfl
    split
    · rfl
    split
    · rfl
    split
    · rfl
    split
    · rename_i x hx
      cases x <;> simp [hp_c, up1, e]
    · rfl
theorem hp_f_set (b : Nat → Int32) : ∀ (fs : List (Option Nat)) (i j : Nat) (v : Int32), fs[j]? = some none → (hp_f b i fs).set j (.int v) = hp_f (fun q => if q = i + j then v else b q) i fs
  | [], _, _, _, h => by simp at h
  | none :: r, i, 0, v, _ => by
    have e : ∀ (fs : List (Option Nat)) (m : Nat), i < m → hp_f b m fs = hp_f (fun q => if q = i + 0 then v else b q) m fs := by
      intro fs
      induction fs with
      | nil => intro m _; rfl
      | cons x xs ih =>
        intro m hm
        cases x with
        | none => simp only [hp_f]; rw [ih (m + 1) (by omega), if_neg (by omega)]
        | some a => simp only [hp_f]; rw [ih (m + 1) (by omega)]
    simp only [hp_f, List.set_cons_zero]
    rw [e r (i + 1) (by omega), if_pos (by omega)]
  | some a :: r, i, 0, v, h => by simp at h
  | x :: r, i, j + 1, v, h => by
    have h2 : r[j]? = some none := by simpa using h
    have ih := hp_f_set b r (i + 1) j v h2
    cases x with
    | none =>
      simp only [hp_f, List.set_cons_succ]
      rw [ih, if_neg (by omega), show i + 1 + j = i + (j + 1) by omega]
    | some a =>
      simp only [hp_f, List.set_cons_succ]
      rw [ih, show i + 1 + j = i + (j + 1) by omega]
theorem hp_setB {k ci j : Nat} {fs : List (Option Nat)} {v : Int32} (hk : ly_B k ci fs) (hj : fs[j]? = some none) : ex_set (hp L xs A B O c) k (.inr (ci, (hp_f (B k) 0 fs).set j (.int v))) = hp L xs A (up1 B k (up1 (B k) j v)) O c := by
  obtain ⟨h1, h2, h3, h4, h5⟩ := hk
  rw [hp_f_set _ _ _ _ _ hj]
  unfold ex_set hp
  refine Prod.ext rfl (funext fun q => ?_)
  dsimp only
  by_cases e : q = k
  · subst e
    rw [if_pos rfl]
    unfold hp_g
    rw [if_neg h2, if_neg h3, if_neg h4, if_neg h5, h1]
    simp only [hp_c, up1, Nat.zero_add, if_true]
    rfl
  · rw [if_neg e]
    unfold hp_g
    split
    · rfl
    split
    · rfl
    split
    · rfl
    split
    · rfl
    split
    · rename_i x hx
      cases x <;> simp [hp_c, up1, e]
    · rfl
end HP
